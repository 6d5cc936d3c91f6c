section Words4
set_option maxRecDepth 16384 in
theorem cz_o_4_0 : ((tables_1_4.take 40)).all (fun c => su_isCode c || c.before start1.args0 cz_bad) = true := by decide +kernel
set_option maxRecDepth 16384 in
theorem cz_o_4_1 : (((tables_1_4.drop 40).take 40)).all (fun c => su_isCode c || c.before start1.args0 cz_bad) = true := by decide +kernel
set_option maxRecDepth 16384 in
theorem cz_o_4_2 : ((((tables_1_4.drop 40).drop 40).take 40)).all (fun c => su_isCode c || c.before start1.args0 cz_bad) = true := by decide +kernel
set_option maxRecDepth 16384 in
theorem cz_o_4_3 : (((((tables_1_4.drop 40).drop 40).drop 40).take 40)).all (fun c => su_isCode c || c.before start1.args0 cz_bad) = true := by decide +kernel
set_option maxRecDepth 16384 in
theorem cz_o_4_4 : ((((((tables_1_4.drop 40).drop 40).drop 40).drop 40).take 40)).all (fun c => su_isCode c || c.before start1.args0 cz_bad) = true := by decide +kernel
set_option maxRecDepth 16384 in
theorem cz_o_4_5 : ((((((tables_1_4.drop 40).drop 40).drop 40).drop 40).drop 40)).all (fun c => su_isCode c || c.before start1.args0 cz_bad) = true := by decide +kernel
theorem cz_w_4 : ∀ c ∈ tables_1_4, c.before start1.args0 cz_bad = true := fun c h => su_words (start1.su_all_split _ 40 tables_1_4 cz_o_4_0 (start1.su_all_split _ 40 (tables_1_4.drop 40) cz_o_4_1 (start1.su_all_split _ 40 ((tables_1_4.drop 40).drop 40) cz_o_4_2 (start1.su_all_split _ 40 (((tables_1_4.drop 40).drop 40).drop 40) cz_o_4_3 (start1.su_all_split _ 40 ((((tables_1_4.drop 40).drop 40).drop 40).drop 40) cz_o_4_4 cz_o_4_5))))) (cz_codes start1.words_4) c h
end Words4
