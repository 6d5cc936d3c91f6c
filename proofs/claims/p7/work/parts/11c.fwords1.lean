section Words1
set_option maxRecDepth 16384 in
theorem cz_o_1_0 : ((tables_1_1.take 40)).all (fun c => su_isCode c || c.before start1.args0 cz_bad) = true := by decide +kernel
set_option maxRecDepth 16384 in
theorem cz_o_1_1 : (((tables_1_1.drop 40).take 40)).all (fun c => su_isCode c || c.before start1.args0 cz_bad) = true := by decide +kernel
set_option maxRecDepth 16384 in
theorem cz_o_1_2 : ((((tables_1_1.drop 40).drop 40).take 40)).all (fun c => su_isCode c || c.before start1.args0 cz_bad) = true := by decide +kernel
set_option maxRecDepth 16384 in
theorem cz_o_1_3 : (((((tables_1_1.drop 40).drop 40).drop 40).take 40)).all (fun c => su_isCode c || c.before start1.args0 cz_bad) = true := by decide +kernel
set_option maxRecDepth 16384 in
theorem cz_o_1_4 : ((((((tables_1_1.drop 40).drop 40).drop 40).drop 40).take 40)).all (fun c => su_isCode c || c.before start1.args0 cz_bad) = true := by decide +kernel
set_option maxRecDepth 16384 in
theorem cz_o_1_5 : ((((((tables_1_1.drop 40).drop 40).drop 40).drop 40).drop 40)).all (fun c => su_isCode c || c.before start1.args0 cz_bad) = true := by decide +kernel
theorem cz_w_1 : ∀ c ∈ tables_1_1, c.before start1.args0 cz_bad = true := fun c h => su_words (start1.su_all_split _ 40 tables_1_1 cz_o_1_0 (start1.su_all_split _ 40 (tables_1_1.drop 40) cz_o_1_1 (start1.su_all_split _ 40 ((tables_1_1.drop 40).drop 40) cz_o_1_2 (start1.su_all_split _ 40 (((tables_1_1.drop 40).drop 40).drop 40) cz_o_1_3 (start1.su_all_split _ 40 ((((tables_1_1.drop 40).drop 40).drop 40).drop 40) cz_o_1_4 cz_o_1_5))))) (cz_codes start1.words_1) c h
end Words1
