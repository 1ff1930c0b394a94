set_option maxRecDepth 16384 in
theorem ry_o_1_0 : ((tables_1_1).take 30).all (fun c => su_isCode c || c.before start1.args0 ry_s) = true := by decide +kernel
set_option maxRecDepth 16384 in
theorem ry_o_1_1 : (((tables_1_1).drop 30).take 30).all (fun c => su_isCode c || c.before start1.args0 ry_s) = true := by decide +kernel
set_option maxRecDepth 16384 in
theorem ry_o_1_2 : ((((tables_1_1).drop 30).drop 30).take 30).all (fun c => su_isCode c || c.before start1.args0 ry_s) = true := by decide +kernel
set_option maxRecDepth 16384 in
theorem ry_o_1_3 : (((((tables_1_1).drop 30).drop 30).drop 30).take 30).all (fun c => su_isCode c || c.before start1.args0 ry_s) = true := by decide +kernel
set_option maxRecDepth 16384 in
theorem ry_o_1_4 : ((((((tables_1_1).drop 30).drop 30).drop 30).drop 30).take 30).all (fun c => su_isCode c || c.before start1.args0 ry_s) = true := by decide +kernel
set_option maxRecDepth 16384 in
theorem ry_o_1_5 : (((((((tables_1_1).drop 30).drop 30).drop 30).drop 30).drop 30).take 30).all (fun c => su_isCode c || c.before start1.args0 ry_s) = true := by decide +kernel
set_option maxRecDepth 16384 in
theorem ry_o_1_6 : ((((((((tables_1_1).drop 30).drop 30).drop 30).drop 30).drop 30).drop 30).take 30).all (fun c => su_isCode c || c.before start1.args0 ry_s) = true := by decide +kernel
set_option maxRecDepth 16384 in
theorem ry_o_1_7 : ((((((((tables_1_1).drop 30).drop 30).drop 30).drop 30).drop 30).drop 30).drop 30).all (fun c => su_isCode c || c.before start1.args0 ry_s) = true := by decide +kernel
theorem ry_others_1 : (tables_1_1).all (fun c => su_isCode c || c.before start1.args0 ry_s) = true := (start1.su_all_split _ 30 (tables_1_1) ry_o_1_0 (start1.su_all_split _ 30 ((tables_1_1).drop 30) ry_o_1_1 (start1.su_all_split _ 30 (((tables_1_1).drop 30).drop 30) ry_o_1_2 (start1.su_all_split _ 30 ((((tables_1_1).drop 30).drop 30).drop 30) ry_o_1_3 (start1.su_all_split _ 30 (((((tables_1_1).drop 30).drop 30).drop 30).drop 30) ry_o_1_4 (start1.su_all_split _ 30 ((((((tables_1_1).drop 30).drop 30).drop 30).drop 30).drop 30) ry_o_1_5 (start1.su_all_split _ 30 (((((((tables_1_1).drop 30).drop 30).drop 30).drop 30).drop 30).drop 30) ry_o_1_6 ry_o_1_7)))))))
theorem ry_words_1 : ∀ c ∈ tables_1_1, c.before start1.args0 ry_s = true := su_words ry_others_1 (ry_codes start1.words_1)
