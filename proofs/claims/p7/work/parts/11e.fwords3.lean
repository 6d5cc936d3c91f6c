section Words3
set_option maxRecDepth 16384 in
theorem cz_o_3_0 : ((tables_1_3.take 40)).all (fun c => su_isCode c || c.before start1.args0 cz_bad) = true := by decide +kernel
set_option maxRecDepth 16384 in
theorem cz_o_3_1 : (((tables_1_3.drop 40).take 40)).all (fun c => su_isCode c || c.before start1.args0 cz_bad) = true := by decide +kernel
set_option maxRecDepth 16384 in
theorem cz_o_3_2 : ((((tables_1_3.drop 40).drop 40).take 40)).all (fun c => su_isCode c || c.before start1.args0 cz_bad) = true := by decide +kernel
set_option maxRecDepth 16384 in
theorem cz_o_3_3 : (((((tables_1_3.drop 40).drop 40).drop 40).take 40)).all (fun c => su_isCode c || c.before start1.args0 cz_bad) = true := by decide +kernel
set_option maxRecDepth 16384 in
theorem cz_o_3_4 : ((((((tables_1_3.drop 40).drop 40).drop 40).drop 40).take 40)).all (fun c => su_isCode c || c.before start1.args0 cz_bad) = true := by decide +kernel
set_option maxRecDepth 16384 in
theorem cz_o_3_5 : ((((((tables_1_3.drop 40).drop 40).drop 40).drop 40).drop 40)).all (fun c => su_isCode c || c.before start1.args0 cz_bad) = true := by decide +kernel
theorem cz_w_3 : ∀ c ∈ tables_1_3, c.before start1.args0 cz_bad = true := fun c h => su_words (start1.su_all_split _ 40 tables_1_3 cz_o_3_0 (start1.su_all_split _ 40 (tables_1_3.drop 40) cz_o_3_1 (start1.su_all_split _ 40 ((tables_1_3.drop 40).drop 40) cz_o_3_2 (start1.su_all_split _ 40 (((tables_1_3.drop 40).drop 40).drop 40) cz_o_3_3 (start1.su_all_split _ 40 ((((tables_1_3.drop 40).drop 40).drop 40).drop 40) cz_o_3_4 cz_o_3_5))))) (cz_codes start1.words_3) c h
end Words3
