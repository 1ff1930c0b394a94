set_option maxRecDepth 16384 in
theorem ry_o_5_0 : ((tables_1_5).take 30).all (fun c => su_isCode c || c.before start1.args0 ry_s) = true := by decide +kernel
set_option maxRecDepth 16384 in
theorem ry_o_5_1 : (((tables_1_5).drop 30).take 30).all (fun c => su_isCode c || c.before start1.args0 ry_s) = true := by decide +kernel
set_option maxRecDepth 16384 in
theorem ry_o_5_2 : ((((tables_1_5).drop 30).drop 30).take 30).all (fun c => su_isCode c || c.before start1.args0 ry_s) = true := by decide +kernel
set_option maxRecDepth 16384 in
theorem ry_o_5_3 : (((((tables_1_5).drop 30).drop 30).drop 30).take 30).all (fun c => su_isCode c || c.before start1.args0 ry_s) = true := by decide +kernel
set_option maxRecDepth 16384 in
theorem ry_o_5_4 : ((((((tables_1_5).drop 30).drop 30).drop 30).drop 30).take 30).all (fun c => su_isCode c || c.before start1.args0 ry_s) = true := by decide +kernel
set_option maxRecDepth 16384 in
theorem ry_o_5_5 : ((((((tables_1_5).drop 30).drop 30).drop 30).drop 30).drop 30).all (fun c => su_isCode c || c.before start1.args0 ry_s) = true := by decide +kernel
theorem ry_others_5 : (tables_1_5).all (fun c => su_isCode c || c.before start1.args0 ry_s) = true := (start1.su_all_split _ 30 (tables_1_5) ry_o_5_0 (start1.su_all_split _ 30 ((tables_1_5).drop 30) ry_o_5_1 (start1.su_all_split _ 30 (((tables_1_5).drop 30).drop 30) ry_o_5_2 (start1.su_all_split _ 30 ((((tables_1_5).drop 30).drop 30).drop 30) ry_o_5_3 (start1.su_all_split _ 30 (((((tables_1_5).drop 30).drop 30).drop 30).drop 30) ry_o_5_4 ry_o_5_5)))))
theorem ry_words_5 : ∀ c ∈ tables_1_5, c.before start1.args0 ry_s = true := su_words ry_others_5 (ry_codes start1.words_5)
