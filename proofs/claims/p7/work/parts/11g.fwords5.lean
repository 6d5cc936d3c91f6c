section Words5
set_option maxRecDepth 16384 in
theorem cz_o_5_0 : ((tables_1_5.take 40)).all (fun c => su_isCode c || c.before start1.args0 cz_bad) = true := by decide +kernel
set_option maxRecDepth 16384 in
theorem cz_o_5_1 : (((tables_1_5.drop 40).take 40)).all (fun c => su_isCode c || c.before start1.args0 cz_bad) = true := by decide +kernel
set_option maxRecDepth 16384 in
theorem cz_o_5_2 : (((tables_1_5.drop 40).drop 40)).all (fun c => su_isCode c || c.before start1.args0 cz_bad) = true := by decide +kernel
theorem cz_w_5 : ∀ c ∈ tables_1_5, c.before start1.args0 cz_bad = true := fun c h => su_words (start1.su_all_split _ 40 tables_1_5 cz_o_5_0 (start1.su_all_split _ 40 (tables_1_5.drop 40) cz_o_5_1 cz_o_5_2)) (cz_codes start1.words_5) c h
end Words5
