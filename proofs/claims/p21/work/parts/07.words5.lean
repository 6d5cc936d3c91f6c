section Words5
set_option maxRecDepth 16384 in
theorem ct_o_5_0 : ((tables_1_5.take 40)).all (fun c => su_isCode c || c.before start1.args0 ct_bad) = true := by decide +kernel
set_option maxRecDepth 16384 in
theorem ct_o_5_1 : (((tables_1_5.drop 40).take 40)).all (fun c => su_isCode c || c.before start1.args0 ct_bad) = true := by decide +kernel
set_option maxRecDepth 16384 in
theorem ct_o_5_2 : (((tables_1_5.drop 40).drop 40)).all (fun c => su_isCode c || c.before start1.args0 ct_bad) = true := by decide +kernel
theorem ct_w_5 : ∀ c ∈ tables_1_5, c.before start1.args0 ct_bad = true := fun c h => su_words (start1.su_all_split _ 40 tables_1_5 ct_o_5_0 (start1.su_all_split _ 40 (tables_1_5.drop 40) ct_o_5_1 ct_o_5_2)) (ct_codes start1.words_5) c h
end Words5
