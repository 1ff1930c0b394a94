set_option maxRecDepth 16384 in
theorem ry_o_4_0 : ((tables_1_4).take 30).all (fun c => su_isCode c || c.before start1.args0 ry_s) = true := by decide +kernel
set_option maxRecDepth 16384 in
theorem ry_o_4_1 : (((tables_1_4).drop 30).take 30).all (fun c => su_isCode c || c.before start1.args0 ry_s) = true := by decide +kernel
set_option maxRecDepth 16384 in
theorem ry_o_4_2 : ((((tables_1_4).drop 30).drop 30).take 30).all (fun c => su_isCode c || c.before start1.args0 ry_s) = true := by decide +kernel
set_option maxRecDepth 16384 in
theorem ry_o_4_3 : (((((tables_1_4).drop 30).drop 30).drop 30).take 30).all (fun c => su_isCode c || c.before start1.args0 ry_s) = true := by decide +kernel
set_option maxRecDepth 16384 in
theorem ry_o_4_4 : ((((((tables_1_4).drop 30).drop 30).drop 30).drop 30).take 30).all (fun c => su_isCode c || c.before start1.args0 ry_s) = true := by decide +kernel
set_option maxRecDepth 16384 in
theorem ry_o_4_5 : (((((((tables_1_4).drop 30).drop 30).drop 30).drop 30).drop 30).take 30).all (fun c => su_isCode c || c.before start1.args0 ry_s) = true := by decide +kernel
set_option maxRecDepth 16384 in
theorem ry_o_4_6 : ((((((((tables_1_4).drop 30).drop 30).drop 30).drop 30).drop 30).drop 30).take 30).all (fun c => su_isCode c || c.before start1.args0 ry_s) = true := by decide +kernel
set_option maxRecDepth 16384 in
theorem ry_o_4_7 : ((((((((tables_1_4).drop 30).drop 30).drop 30).drop 30).drop 30).drop 30).drop 30).all (fun c => su_isCode c || c.before start1.args0 ry_s) = true := by decide +kernel
theorem ry_others_4 : (tables_1_4).all (fun c => su_isCode c || c.before start1.args0 ry_s) = true := (start1.su_all_split _ 30 (tables_1_4) ry_o_4_0 (start1.su_all_split _ 30 ((tables_1_4).drop 30) ry_o_4_1 (start1.su_all_split _ 30 (((tables_1_4).drop 30).drop 30) ry_o_4_2 (start1.su_all_split _ 30 ((((tables_1_4).drop 30).drop 30).drop 30) ry_o_4_3 (start1.su_all_split _ 30 (((((tables_1_4).drop 30).drop 30).drop 30).drop 30) ry_o_4_4 (start1.su_all_split _ 30 ((((((tables_1_4).drop 30).drop 30).drop 30).drop 30).drop 30) ry_o_4_5 (start1.su_all_split _ 30 (((((((tables_1_4).drop 30).drop 30).drop 30).drop 30).drop 30).drop 30) ry_o_4_6 ry_o_4_7)))))))
theorem ry_words_4 : ∀ c ∈ tables_1_4, c.before start1.args0 ry_s = true := su_words ry_others_4 (ry_codes start1.words_4)
