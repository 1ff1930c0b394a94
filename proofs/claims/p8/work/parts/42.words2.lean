set_option maxRecDepth 16384 in
theorem ry_o_2_0 : ((tables_1_2).take 30).all (fun c => su_isCode c || c.before start1.args0 ry_s) = true := by decide +kernel
set_option maxRecDepth 16384 in
theorem ry_o_2_1 : (((tables_1_2).drop 30).take 30).all (fun c => su_isCode c || c.before start1.args0 ry_s) = true := by decide +kernel
set_option maxRecDepth 16384 in
theorem ry_o_2_2 : ((((tables_1_2).drop 30).drop 30).take 30).all (fun c => su_isCode c || c.before start1.args0 ry_s) = true := by decide +kernel
set_option maxRecDepth 16384 in
theorem ry_o_2_3 : (((((tables_1_2).drop 30).drop 30).drop 30).take 30).all (fun c => su_isCode c || c.before start1.args0 ry_s) = true := by decide +kernel
set_option maxRecDepth 16384 in
theorem ry_o_2_4 : ((((((tables_1_2).drop 30).drop 30).drop 30).drop 30).take 30).all (fun c => su_isCode c || c.before start1.args0 ry_s) = true := by decide +kernel
set_option maxRecDepth 16384 in
theorem ry_o_2_5 : (((((((tables_1_2).drop 30).drop 30).drop 30).drop 30).drop 30).take 30).all (fun c => su_isCode c || c.before start1.args0 ry_s) = true := by decide +kernel
set_option maxRecDepth 16384 in
theorem ry_o_2_6 : ((((((((tables_1_2).drop 30).drop 30).drop 30).drop 30).drop 30).drop 30).take 30).all (fun c => su_isCode c || c.before start1.args0 ry_s) = true := by decide +kernel
set_option maxRecDepth 16384 in
theorem ry_o_2_7 : ((((((((tables_1_2).drop 30).drop 30).drop 30).drop 30).drop 30).drop 30).drop 30).all (fun c => su_isCode c || c.before start1.args0 ry_s) = true := by decide +kernel
theorem ry_others_2 : (tables_1_2).all (fun c => su_isCode c || c.before start1.args0 ry_s) = true := (start1.su_all_split _ 30 (tables_1_2) ry_o_2_0 (start1.su_all_split _ 30 ((tables_1_2).drop 30) ry_o_2_1 (start1.su_all_split _ 30 (((tables_1_2).drop 30).drop 30) ry_o_2_2 (start1.su_all_split _ 30 ((((tables_1_2).drop 30).drop 30).drop 30) ry_o_2_3 (start1.su_all_split _ 30 (((((tables_1_2).drop 30).drop 30).drop 30).drop 30) ry_o_2_4 (start1.su_all_split _ 30 ((((((tables_1_2).drop 30).drop 30).drop 30).drop 30).drop 30) ry_o_2_5 (start1.su_all_split _ 30 (((((((tables_1_2).drop 30).drop 30).drop 30).drop 30).drop 30).drop 30) ry_o_2_6 ry_o_2_7)))))))
theorem ry_words_2 : ∀ c ∈ tables_1_2, c.before start1.args0 ry_s = true := su_words ry_others_2 (ry_codes start1.words_2)
