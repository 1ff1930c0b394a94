set_option maxRecDepth 16384 in
theorem ry_o_3_0 : ((tables_1_3).take 30).all (fun c => su_isCode c || c.before start1.args0 ry_s) = true := by decide +kernel
set_option maxRecDepth 16384 in
theorem ry_o_3_1 : (((tables_1_3).drop 30).take 30).all (fun c => su_isCode c || c.before start1.args0 ry_s) = true := by decide +kernel
set_option maxRecDepth 16384 in
theorem ry_o_3_2 : ((((tables_1_3).drop 30).drop 30).take 30).all (fun c => su_isCode c || c.before start1.args0 ry_s) = true := by decide +kernel
set_option maxRecDepth 16384 in
theorem ry_o_3_3 : (((((tables_1_3).drop 30).drop 30).drop 30).take 30).all (fun c => su_isCode c || c.before start1.args0 ry_s) = true := by decide +kernel
set_option maxRecDepth 16384 in
theorem ry_o_3_4 : ((((((tables_1_3).drop 30).drop 30).drop 30).drop 30).take 30).all (fun c => su_isCode c || c.before start1.args0 ry_s) = true := by decide +kernel
set_option maxRecDepth 16384 in
theorem ry_o_3_5 : (((((((tables_1_3).drop 30).drop 30).drop 30).drop 30).drop 30).take 30).all (fun c => su_isCode c || c.before start1.args0 ry_s) = true := by decide +kernel
set_option maxRecDepth 16384 in
theorem ry_o_3_6 : ((((((((tables_1_3).drop 30).drop 30).drop 30).drop 30).drop 30).drop 30).take 30).all (fun c => su_isCode c || c.before start1.args0 ry_s) = true := by decide +kernel
set_option maxRecDepth 16384 in
theorem ry_o_3_7 : ((((((((tables_1_3).drop 30).drop 30).drop 30).drop 30).drop 30).drop 30).drop 30).all (fun c => su_isCode c || c.before start1.args0 ry_s) = true := by decide +kernel
theorem ry_others_3 : (tables_1_3).all (fun c => su_isCode c || c.before start1.args0 ry_s) = true := (start1.su_all_split _ 30 (tables_1_3) ry_o_3_0 (start1.su_all_split _ 30 ((tables_1_3).drop 30) ry_o_3_1 (start1.su_all_split _ 30 (((tables_1_3).drop 30).drop 30) ry_o_3_2 (start1.su_all_split _ 30 ((((tables_1_3).drop 30).drop 30).drop 30) ry_o_3_3 (start1.su_all_split _ 30 (((((tables_1_3).drop 30).drop 30).drop 30).drop 30) ry_o_3_4 (start1.su_all_split _ 30 ((((((tables_1_3).drop 30).drop 30).drop 30).drop 30).drop 30) ry_o_3_5 (start1.su_all_split _ 30 (((((((tables_1_3).drop 30).drop 30).drop 30).drop 30).drop 30).drop 30) ry_o_3_6 ry_o_3_7)))))))
theorem ry_words_3 : ∀ c ∈ tables_1_3, c.before start1.args0 ry_s = true := su_words ry_others_3 (ry_codes start1.words_3)
