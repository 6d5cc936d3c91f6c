section Words5
set_option maxRecDepth 16384 in
theorem cx_o_5_0 : ((tables_1_5.take 40)).all (fun c => su_isCode c || c.before start1.args0 cx_bad) = true := by decide +kernel
set_option maxRecDepth 16384 in
theorem cx_o_5_1 : (((tables_1_5.drop 40).take 40)).all (fun c => su_isCode c || c.before start1.args0 cx_bad) = true := by decide +kernel
set_option maxRecDepth 16384 in
theorem cx_o_5_2 : (((tables_1_5.drop 40).drop 40)).all (fun c => su_isCode c || c.before start1.args0 cx_bad) = true := by decide +kernel
theorem cx_w_5 : ∀ c ∈ tables_1_5, c.before start1.args0 cx_bad = true := fun c h => su_words (start1.su_all_split _ 40 tables_1_5 cx_o_5_0 (start1.su_all_split _ 40 (tables_1_5.drop 40) cx_o_5_1 cx_o_5_2)) (cx_codes start1.words_5) c h
end Words5
