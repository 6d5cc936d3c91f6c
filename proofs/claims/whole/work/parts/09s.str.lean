def RJ0 : String := "java/lang/String"
def RJ1 : String := "java/lang/StringLatin1"
def RJ3 : String := "jdk/internal/util/Preconditions"
abbrev cJ0_length_8abf5 : ByteArray := prog_11_method_54_code
def yJ0_length_8abf5 : MethodName := ⟨RJ0, "length", "()I"⟩
abbrev cJ0_charAt_5068e : ByteArray := prog_11_method_56_code
def yJ0_charAt_5068e : MethodName := ⟨RJ0, "charAt", "(I)C"⟩
abbrev cJ0_coder_7d493 : ByteArray := prog_11_method_152_code
def yJ0_coder_7d493 : MethodName := ⟨RJ0, "coder", "()B"⟩
abbrev cJ0_isLatin1_aae02 : ByteArray := prog_11_method_154_code
def yJ0_isLatin1_aae02 : MethodName := ⟨RJ0, "isLatin1", "()Z"⟩
abbrev cJ0_checkIndex_df160 : ByteArray := prog_11_method_155_code
def yJ0_checkIndex_df160 : MethodName := ⟨RJ0, "checkIndex", "(II)V"⟩
abbrev cJ1_charAt_3b067 : ByteArray := prog_12_method_2_code
def yJ1_charAt_3b067 : MethodName := ⟨RJ1, "charAt", "([BI)C"⟩
abbrev cJ3_checkIndex_8e157 : ByteArray := prog_15_method_11_code
def yJ3_checkIndex_8e157 : MethodName := ⟨RJ3, "checkIndex", "(IILjava/util/function/BiFunction;)I"⟩
theorem dJ0_length_8abf5_0 : decode cJ0_length_8abf5 0 = .ok (.aload_n 0, 1) := by decide +kernel
theorem dJ0_length_8abf5_1 : decode cJ0_length_8abf5 1 = .ok (.getfield 9, 3) := by decide +kernel
theorem dJ0_length_8abf5_4 : decode cJ0_length_8abf5 4 = .ok (.arraylength, 1) := by decide +kernel
theorem dJ0_length_8abf5_5 : decode cJ0_length_8abf5 5 = .ok (.aload_n 0, 1) := by decide +kernel
theorem dJ0_length_8abf5_6 : decode cJ0_length_8abf5 6 = .ok (.invokevirtual 335, 3) := by decide +kernel
theorem dJ0_length_8abf5_9 : decode cJ0_length_8abf5 9 = .ok (.ishr, 1) := by decide +kernel
theorem dJ0_length_8abf5_10 : decode cJ0_length_8abf5 10 = .ok (.ireturn, 1) := by decide +kernel
theorem dJ0_charAt_5068e_0 : decode cJ0_charAt_5068e 0 = .ok (.aload_n 0, 1) := by decide +kernel
theorem dJ0_charAt_5068e_1 : decode cJ0_charAt_5068e 1 = .ok (.invokevirtual 492, 3) := by decide +kernel
theorem dJ0_charAt_5068e_4 : decode cJ0_charAt_5068e 4 = .ok (.ifCond .eq 12, 3) := by decide +kernel
theorem dJ0_charAt_5068e_7 : decode cJ0_charAt_5068e 7 = .ok (.aload_n 0, 1) := by decide +kernel
theorem dJ0_charAt_5068e_8 : decode cJ0_charAt_5068e 8 = .ok (.getfield 9, 3) := by decide +kernel
theorem dJ0_charAt_5068e_11 : decode cJ0_charAt_5068e 11 = .ok (.iload_n 1, 1) := by decide +kernel
theorem dJ0_charAt_5068e_12 : decode cJ0_charAt_5068e 12 = .ok (.invokestatic 495, 3) := by decide +kernel
theorem dJ0_charAt_5068e_15 : decode cJ0_charAt_5068e 15 = .ok (.ireturn, 1) := by decide +kernel
theorem dJ0_charAt_5068e_16 : decode cJ0_charAt_5068e 16 = .ok (.aload_n 0, 1) := by decide +kernel
theorem dJ0_charAt_5068e_17 : decode cJ0_charAt_5068e 17 = .ok (.getfield 9, 3) := by decide +kernel
theorem dJ0_charAt_5068e_20 : decode cJ0_charAt_5068e 20 = .ok (.iload_n 1, 1) := by decide +kernel
theorem dJ0_charAt_5068e_21 : decode cJ0_charAt_5068e 21 = .ok (.invokestatic 498, 3) := by decide +kernel
theorem dJ0_charAt_5068e_24 : decode cJ0_charAt_5068e 24 = .ok (.ireturn, 1) := by decide +kernel
theorem dJ0_coder_7d493_0 : decode cJ0_coder_7d493 0 = .ok (.getstatic 38, 3) := by decide +kernel
theorem dJ0_coder_7d493_3 : decode cJ0_coder_7d493 3 = .ok (.ifCond .eq 10, 3) := by decide +kernel
theorem dJ0_coder_7d493_6 : decode cJ0_coder_7d493 6 = .ok (.aload_n 0, 1) := by decide +kernel
theorem dJ0_coder_7d493_7 : decode cJ0_coder_7d493 7 = .ok (.getfield 15, 3) := by decide +kernel
theorem dJ0_coder_7d493_10 : decode cJ0_coder_7d493 10 = .ok (.goto 4, 3) := by decide +kernel
theorem dJ0_coder_7d493_13 : decode cJ0_coder_7d493 13 = .ok (.iconst 1, 1) := by decide +kernel
theorem dJ0_coder_7d493_14 : decode cJ0_coder_7d493 14 = .ok (.ireturn, 1) := by decide +kernel
theorem dJ0_isLatin1_aae02_0 : decode cJ0_isLatin1_aae02 0 = .ok (.getstatic 38, 3) := by decide +kernel
theorem dJ0_isLatin1_aae02_3 : decode cJ0_isLatin1_aae02 3 = .ok (.ifCond .eq 14, 3) := by decide +kernel
theorem dJ0_isLatin1_aae02_6 : decode cJ0_isLatin1_aae02 6 = .ok (.aload_n 0, 1) := by decide +kernel
theorem dJ0_isLatin1_aae02_7 : decode cJ0_isLatin1_aae02 7 = .ok (.getfield 15, 3) := by decide +kernel
theorem dJ0_isLatin1_aae02_10 : decode cJ0_isLatin1_aae02 10 = .ok (.ifCond .ne 7, 3) := by decide +kernel
theorem dJ0_isLatin1_aae02_13 : decode cJ0_isLatin1_aae02 13 = .ok (.iconst 1, 1) := by decide +kernel
theorem dJ0_isLatin1_aae02_14 : decode cJ0_isLatin1_aae02 14 = .ok (.goto 4, 3) := by decide +kernel
theorem dJ0_isLatin1_aae02_17 : decode cJ0_isLatin1_aae02 17 = .ok (.iconst 0, 1) := by decide +kernel
theorem dJ0_isLatin1_aae02_18 : decode cJ0_isLatin1_aae02 18 = .ok (.ireturn, 1) := by decide +kernel
theorem dJ0_checkIndex_df160_0 : decode cJ0_checkIndex_df160 0 = .ok (.iload_n 0, 1) := by decide +kernel
theorem dJ0_checkIndex_df160_1 : decode cJ0_checkIndex_df160 1 = .ok (.iload_n 1, 1) := by decide +kernel
theorem dJ0_checkIndex_df160_2 : decode cJ0_checkIndex_df160 2 = .ok (.getstatic 1053, 3) := by decide +kernel
theorem dJ0_checkIndex_df160_5 : decode cJ0_checkIndex_df160 5 = .ok (.invokestatic 1059, 3) := by decide +kernel
theorem dJ0_checkIndex_df160_8 : decode cJ0_checkIndex_df160 8 = .ok (.pop, 1) := by decide +kernel
theorem dJ0_checkIndex_df160_9 : decode cJ0_checkIndex_df160 9 = .ok (.return_, 1) := by decide +kernel
theorem dJ1_charAt_3b067_0 : decode cJ1_charAt_3b067 0 = .ok (.iload_n 1, 1) := by decide +kernel
theorem dJ1_charAt_3b067_1 : decode cJ1_charAt_3b067 1 = .ok (.aload_n 0, 1) := by decide +kernel
theorem dJ1_charAt_3b067_2 : decode cJ1_charAt_3b067 2 = .ok (.arraylength, 1) := by decide +kernel
theorem dJ1_charAt_3b067_3 : decode cJ1_charAt_3b067 3 = .ok (.invokestatic 9, 3) := by decide +kernel
theorem dJ1_charAt_3b067_6 : decode cJ1_charAt_3b067 6 = .ok (.aload_n 0, 1) := by decide +kernel
theorem dJ1_charAt_3b067_7 : decode cJ1_charAt_3b067 7 = .ok (.iload_n 1, 1) := by decide +kernel
theorem dJ1_charAt_3b067_8 : decode cJ1_charAt_3b067 8 = .ok (.baload, 1) := by decide +kernel
theorem dJ1_charAt_3b067_9 : decode cJ1_charAt_3b067 9 = .ok (.sipush 255, 3) := by decide +kernel
theorem dJ1_charAt_3b067_12 : decode cJ1_charAt_3b067 12 = .ok (.iand, 1) := by decide +kernel
theorem dJ1_charAt_3b067_13 : decode cJ1_charAt_3b067 13 = .ok (.i2c, 1) := by decide +kernel
theorem dJ1_charAt_3b067_14 : decode cJ1_charAt_3b067 14 = .ok (.ireturn, 1) := by decide +kernel
theorem dJ3_checkIndex_8e157_0 : decode cJ3_checkIndex_8e157 0 = .ok (.iload_n 0, 1) := by decide +kernel
theorem dJ3_checkIndex_8e157_1 : decode cJ3_checkIndex_8e157 1 = .ok (.ifCond .lt 8, 3) := by decide +kernel
theorem dJ3_checkIndex_8e157_4 : decode cJ3_checkIndex_8e157 4 = .ok (.iload_n 0, 1) := by decide +kernel
theorem dJ3_checkIndex_8e157_5 : decode cJ3_checkIndex_8e157 5 = .ok (.iload_n 1, 1) := by decide +kernel
theorem dJ3_checkIndex_8e157_6 : decode cJ3_checkIndex_8e157 6 = .ok (.if_icmp .lt 10, 3) := by decide +kernel
theorem dJ3_checkIndex_8e157_9 : decode cJ3_checkIndex_8e157 9 = .ok (.aload_n 2, 1) := by decide +kernel
theorem dJ3_checkIndex_8e157_10 : decode cJ3_checkIndex_8e157 10 = .ok (.iload_n 0, 1) := by decide +kernel
theorem dJ3_checkIndex_8e157_11 : decode cJ3_checkIndex_8e157 11 = .ok (.iload_n 1, 1) := by decide +kernel
theorem dJ3_checkIndex_8e157_12 : decode cJ3_checkIndex_8e157 12 = .ok (.invokestatic 95, 3) := by decide +kernel
theorem dJ3_checkIndex_8e157_15 : decode cJ3_checkIndex_8e157 15 = .ok (.athrow, 1) := by decide +kernel
theorem dJ3_checkIndex_8e157_16 : decode cJ3_checkIndex_8e157 16 = .ok (.iload_n 0, 1) := by decide +kernel
theorem dJ3_checkIndex_8e157_17 : decode cJ3_checkIndex_8e157 17 = .ok (.ireturn, 1) := by decide +kernel
/-! the constant's length() and charAt(): six small methods of the JDK -/
def QJ (v : Option Value) : Array Value → State → Outcome → State → Prop := fun _ st oc t => oc = .returned v ∧ t.heap = st.heap
def wsj (y : MethodName) (b : ByteArray) (n : Nat) (r : Option FieldType) : List Jvm.Cond := .code y b n r :: gw
theorem wsj_good {y : MethodName} {b : ByteArray} {n i : Nat} {r : Option FieldType} (h : lw_tbl[i]? = some (Jvm.Cond.code y b n r)) : GoodIn gw (wsj y b n r) := by
  intro w hw
  rcases List.mem_cons.mp hw with rfl | hw
  · have := gw_in (tbl_in h) rfl
    exact ⟨this, gw_good this⟩
  · exact ⟨hw, gw_good hw⟩
section JD
variable {X : En} {p : Program} {e : Env} {R : Room} {s : State} {m : MethodId} {args : Array Value} {below : List Frame} {meth : Method} {c : Code} {cells slots : Nat} {Q0 : State → Prop}
theorem jcall {H : Heap} {locs : List Loc} {pc : Nat} {a : Array Slot} {st0 rest : List Value} {v : Option Value} {av : Array Value} (hr : va_Run p (xl X) e R s m args below meth c H locs cells slots 0 0 (F0 m pc a st0) rest (QJ v av) (xA X)) (hS : va_S (xA X) s.heap H locs)
    (kk : ∀ locs1 : List Loc, va_S (xA X) s.heap H locs1 → W p (xl X) e R s m args below meth c H locs1 cells slots Q0 (F0 m (pc + 3) a (v.toList ++ rest))) : W p (xl X) e R s m args below meth c H locs cells slots Q0 (F0 m pc a st0) := by
  intro T hT XX
  obtain ⟨v', st₀, t, T', L, h0, X', hL, e1, e2, ⟨hv, hh⟩, st⟩ := hr T hT XX
  cases hv
  have hS' : va_S (xA X) s.heap H (locs ++ L) := by
    refine ⟨hS.1, hS.2.1, fun q hq => ?_⟩
    rcases List.mem_append.mp hq with h | h
    · exact hS.2.2 q h
    · exact hL q h
  obtain ⟨t2, a1, b1⟩ := kk (locs ++ L) hS' T' (by rw [e1, hh, h0]) X'
  exact ⟨t2, st t2 a1, b1⟩
def PcJ (X : En) (as : List Value) : Array Value → State → Prop := va_Pc as (fun U => Ev X U)
theorem blind_J {as : List Value} : FrameBlind (PcJ X as) := by
  intro a U g mk h
  exact ⟨h.1, Ev_call (U := U) rfl rfl h.2⟩
theorem ini_J : ∀ C ∈ ["java/lang/String", "java/lang/StringLatin1", "jdk/internal/util/Preconditions"], Jvm.Cond.initialized C ∈ lw_tbl := by decide +kernel
set_option maxRecDepth 100000 in
theorem wj_coder : lw_tbl[412]? = some (Jvm.Cond.code yJ0_coder_7d493 cJ0_coder_7d493 1 (some .byte)) := rfl
set_option maxRecDepth 100000 in
theorem wj_length : lw_tbl[408]? = some (Jvm.Cond.code yJ0_length_8abf5 cJ0_length_8abf5 1 (some .int)) := rfl
set_option maxRecDepth 100000 in
theorem wj_isLatin1 : lw_tbl[422]? = some (Jvm.Cond.code yJ0_isLatin1_aae02 cJ0_isLatin1_aae02 1 (some .boolean)) := rfl
set_option maxRecDepth 100000 in
theorem wj_check3 : lw_tbl[433]? = some (Jvm.Cond.code yJ3_checkIndex_8e157 cJ3_checkIndex_8e157 3 (some .int)) := rfl
set_option maxRecDepth 100000 in
theorem wj_check0 : lw_tbl[428]? = some (Jvm.Cond.code yJ0_checkIndex_df160 cJ0_checkIndex_df160 2 none) := rfl
set_option maxRecDepth 100000 in
theorem wj_char1 : lw_tbl[425]? = some (Jvm.Cond.code yJ1_charAt_3b067 cJ1_charAt_3b067 2 (some .char)) := rfl
set_option maxRecDepth 100000 in
theorem wj_char0 : lw_tbl[418]? = some (Jvm.Cond.code yJ0_charAt_5068e cJ0_charAt_5068e 2 (some .char)) := rfl
theorem j_coder (X : En) : Met (xl X) yJ0_coder_7d493 (wsj yJ0_coder_7d493 cJ0_coder_7d493 1 (some .byte)) (rmk 1) (PcJ X [.ref (xa X 210)]) (QJ (some (.int 0))) 0 0 (xA X) := by
  refine Met.ofW (cc := cJ0_coder_7d493) (maxL := 1) (ret := some .byte) (by decide) rfl ?_
  intro p e s m args below meth c s₁ B hml hv
  obtain ⟨rfl, hEv⟩ := hv
  have hx := B.exec
  have hb := B.bytes
  have hts0 := atoms_spec (ws := wsj yJ0_coder_7d493 cJ0_coder_7d493 1 (some .byte)) B.pre
  have hts : ∀ w ∈ gw, w.before _ s = true := fun w hw => hts0 w (List.mem_cons_of_mem _ hw)
  have hown : s.vm.findClass RJ0 = some m.cls := findClass_of_methodNamed B.named
  have hS : va_S (xA X) s.heap s.heap [] := va_S.rf
  have hl := lv_entry ([.ref (xa X 210)]) (n := 1) (Nat.le_of_ble_eq_true rfl)
  rw [lg_entry_eq]
  generalize (lg_sl ([.ref (xa X 210)]) ++ List.replicate (1 - (lg_sl ([.ref (xa X 210)])).length) Slot.unset).toArray = ls at hl ⊢
  refine va_gets hx hb hEv.2.2.2.2.2.2.1 hS hown (hts (.fieldLink RJ0 38 "java/lang/String" "COMPACT_STRINGS" "Z") (gw_in (by decide +kernel) rfl)) (fun _ q => q) dJ0_coder_7d493_0 ?_
  refine lv_if_eq (tgt := 13) hx hb dJ0_coder_7d493_3 (by decide) (fun h => absurd h (by decide)) (fun _ => ?_)
  refine lv_aload_n hx hb dJ0_coder_7d493_6 rfl (lv_at hl 0 rfl) ?_
  refine vk_getf hx hb (hEv.2.2.2.2.2.1.1 0 (by decide)).2.1 hS hown (hts (.fieldLink RJ0 15 "java/lang/String" "coder" "B") (gw_in (by decide +kernel) rfl)) (fun _ q => q) dJ0_coder_7d493_7 ?_
  refine lv_goto (tgt := 14) hx hb dJ0_coder_7d493_10 (by decide) ?_
  exact W.zret hx hb B.returns rfl (fun t ht _ => ⟨rfl, ht⟩) hS.2.2 dJ0_coder_7d493_14 B.notSynchronized
theorem j_isLatin1 (X : En) : Met (xl X) yJ0_isLatin1_aae02 (wsj yJ0_isLatin1_aae02 cJ0_isLatin1_aae02 1 (some .boolean)) (rmk 1) (PcJ X [.ref (xa X 210)]) (QJ (some (.int 1))) 0 0 (xA X) := by
  refine Met.ofW (cc := cJ0_isLatin1_aae02) (maxL := 1) (ret := some .boolean) (by decide) rfl ?_
  intro p e s m args below meth c s₁ B hml hv
  obtain ⟨rfl, hEv⟩ := hv
  have hx := B.exec
  have hb := B.bytes
  have hts0 := atoms_spec (ws := wsj yJ0_isLatin1_aae02 cJ0_isLatin1_aae02 1 (some .boolean)) B.pre
  have hts : ∀ w ∈ gw, w.before _ s = true := fun w hw => hts0 w (List.mem_cons_of_mem _ hw)
  have hown : s.vm.findClass RJ0 = some m.cls := findClass_of_methodNamed B.named
  have hS : va_S (xA X) s.heap s.heap [] := va_S.rf
  have hl := lv_entry ([.ref (xa X 210)]) (n := 1) (Nat.le_of_ble_eq_true rfl)
  rw [lg_entry_eq]
  generalize (lg_sl ([.ref (xa X 210)]) ++ List.replicate (1 - (lg_sl ([.ref (xa X 210)])).length) Slot.unset).toArray = ls at hl ⊢
  refine va_gets hx hb hEv.2.2.2.2.2.2.1 hS hown (hts (.fieldLink RJ0 38 "java/lang/String" "COMPACT_STRINGS" "Z") (gw_in (by decide +kernel) rfl)) (fun _ q => q) dJ0_isLatin1_aae02_0 ?_
  refine lv_if_eq (tgt := 17) hx hb dJ0_isLatin1_aae02_3 (by decide) (fun h => absurd h (by decide)) (fun _ => ?_)
  refine lv_aload_n hx hb dJ0_isLatin1_aae02_6 rfl (lv_at hl 0 rfl) ?_
  refine vk_getf hx hb (hEv.2.2.2.2.2.1.1 0 (by decide)).2.1 hS hown (hts (.fieldLink RJ0 15 "java/lang/String" "coder" "B") (gw_in (by decide +kernel) rfl)) (fun _ q => q) dJ0_isLatin1_aae02_7 ?_
  refine lv_if_ne (tgt := 17) hx hb dJ0_isLatin1_aae02_10 (by decide) (fun h => absurd rfl h) (fun _ => ?_)
  refine lv_iconst (v := 1) hx hb dJ0_isLatin1_aae02_13 (by decide) ?_
  refine lv_goto (tgt := 18) hx hb dJ0_isLatin1_aae02_14 (by decide) ?_
  exact W.zret hx hb B.returns rfl (fun t ht _ => ⟨rfl, ht⟩) hS.2.2 dJ0_isLatin1_aae02_18 B.notSynchronized
theorem j_length (X : En) : Met (xl X) yJ0_length_8abf5 (wsj yJ0_length_8abf5 cJ0_length_8abf5 1 (some .int)) (rmk 2) (PcJ X [.ref (xa X 210)]) (QJ (some (.int 63))) 0 0 (xA X) := by
  refine Met.ofW (cc := cJ0_length_8abf5) (maxL := 1) (ret := some .int) (by decide) rfl ?_
  intro p e s m args below meth c s₁ B hml hv
  obtain ⟨rfl, hEv⟩ := hv
  have hx := B.exec
  have hb := B.bytes
  have hts0 := atoms_spec (ws := wsj yJ0_length_8abf5 cJ0_length_8abf5 1 (some .int)) B.pre
  have hts : ∀ w ∈ gw, w.before _ s = true := fun w hw => hts0 w (List.mem_cons_of_mem _ hw)
  have hown : s.vm.findClass RJ0 = some m.cls := findClass_of_methodNamed B.named
  have hS : va_S (xA X) s.heap s.heap [] := va_S.rf
  have hl := lv_entry ([.ref (xa X 210)]) (n := 1) (Nat.le_of_ble_eq_true rfl)
  rw [lg_entry_eq]
  generalize (lg_sl ([.ref (xa X 210)]) ++ List.replicate (1 - (lg_sl ([.ref (xa X 210)])).length) Slot.unset).toArray = ls at hl ⊢
  obtain ⟨hO, hco, hva, hT⟩ := hEv.2.2.2.2.2.1.1 0 (by decide)
  refine lv_aload_n hx hb dJ0_length_8abf5_0 rfl (lv_at hl 0 rfl) ?_
  refine vk_getf hx hb hva hS hown (hts (.fieldLink RJ0 9 "java/lang/String" "value" "[B") (gw_in (by decide +kernel) rfl)) (fun _ q => q) dJ0_length_8abf5_1 ?_
  refine va_tlen (v := 63) hx hb hT hS rfl dJ0_length_8abf5_4 ?_
  refine lv_aload_n hx hb dJ0_length_8abf5_5 rfl (lv_at hl 0 rfl) ?_
  refine jcall (va_runV (C := RJ0) (As := []) (rest := [.int 63]) ⟨hx, hb, hml, hown, hts⟩ (j_coder X) ⟨callB_of 0 hts (wsj_good wj_coder) rfl rfl rfl (hts _ (gw_in (ini_J _ (by decide)) rfl)) (hts (.methodLink RJ0 335 yJ0_coder_7d493) (gw_in (by decide +kernel) rfl)) (by decide +kernel) ⟨by decide, by decide⟩, hts (.instanceMethod yJ0_coder_7d493) (gw_in (by decide +kernel) rfl), hts (.selects RJ0 yJ0_coder_7d493 yJ0_coder_7d493) (gw_in (by decide +kernel) rfl)⟩ ⟨blind_J, vk_recv hEv.2.2.2.2.2.1 (i := 0) (by decide) hS, fun U hU hW => ⟨rfl, Ev_go hEv hS hU hW⟩⟩ rfl rfl hl.1 rfl (lv_room (by decide)) dJ0_length_8abf5_6 ⟨Nat.zero_le _, Nat.zero_le _⟩) hS (fun locs1 hS1 => ?_)
  refine lv_ishr hx hb dJ0_length_8abf5_9 ?_
  exact W.zret hx hb B.returns rfl (fun t ht _ => ⟨by rfl, ht⟩) hS1.2.2 dJ0_length_8abf5_10 B.notSynchronized
theorem j_check3 (X : En) (i : Int) (hi : 0 ≤ i ∧ i < 63) (fv : Value) (hfv : fv = .null ∨ ∃ t, fv = .ref t) : Met (xl X) yJ3_checkIndex_8e157 (wsj yJ3_checkIndex_8e157 cJ3_checkIndex_8e157 3 (some .int)) (rmk 1) (PcJ X [.int (Int32.ofInt i), .int 63, fv]) (QJ (some (.int (Int32.ofInt i)))) 0 0 (xA X) := by
  refine Met.ofW (cc := cJ3_checkIndex_8e157) (maxL := 3) (ret := (some .int)) (by decide) rfl ?_
  intro p e s m args below meth c s₁ B hml hv
  obtain ⟨rfl, hEv⟩ := hv
  have hx := B.exec
  have hb := B.bytes
  have hts0 := atoms_spec (ws := wsj yJ3_checkIndex_8e157 cJ3_checkIndex_8e157 3 (some .int)) B.pre
  have hts : ∀ w ∈ gw, w.before _ s = true := fun w hw => hts0 w (List.mem_cons_of_mem _ hw)
  have hown : s.vm.findClass RJ3 = some m.cls := findClass_of_methodNamed B.named
  have hS : va_S (xA X) s.heap s.heap [] := va_S.rf
  have hl := lv_entry ([.int (Int32.ofInt i), .int 63, fv]) (n := 3) (by rcases hfv with rfl | ⟨t, rfl⟩ <;> exact Nat.le_of_ble_eq_true rfl)
  rw [lg_entry_eq]
  generalize (lg_sl ([.int (Int32.ofInt i), .int 63, fv]) ++ List.replicate (3 - (lg_sl ([.int (Int32.ofInt i), .int 63, fv])).length) Slot.unset).toArray = ls at hl ⊢
  have hl0 : ls[0]? = some (.val (.int (Int32.ofInt i))) := hl.2.2 _ List.mem_cons_self
  have hl1 : ls[1]? = some (.val (.int 63)) := hl.2.2 _ (List.mem_cons_of_mem _ List.mem_cons_self)
  have ri : iR i := ⟨by omega, by omega⟩
  refine lv_iload_n hx hb dJ3_checkIndex_8e157_0 rfl hl0 ?_
  refine lv_if_lt (tgt := 9) hx hb dJ3_checkIndex_8e157_1 (by decide) (fun h => absurd ((i32_lt ri iR_0).mp h) (by omega)) (fun _ => ?_)
  refine lv_iload_n hx hb dJ3_checkIndex_8e157_4 rfl hl0 ?_
  refine lv_iload_n hx hb dJ3_checkIndex_8e157_5 rfl hl1 ?_
  refine lv_icmp_lt (tgt := 16) hx hb dJ3_checkIndex_8e157_6 (by decide) (fun _ => ?_) (fun h => absurd ((i32_lt ri (y := 63) ⟨by decide, by decide⟩).mpr hi.2) h)
  refine lv_iload_n hx hb dJ3_checkIndex_8e157_16 rfl hl0 ?_
  exact W.zret hx hb B.returns rfl (fun t ht _ => ⟨rfl, ht⟩) hS.2.2 dJ3_checkIndex_8e157_17 B.notSynchronized
theorem j_check0 (X : En) (i : Int) (hi : 0 ≤ i ∧ i < 63) : Met (xl X) yJ0_checkIndex_df160 (wsj yJ0_checkIndex_df160 cJ0_checkIndex_df160 2 none) (rmk 2) (PcJ X [.int (Int32.ofInt i), .int 63]) (QJ none) 0 0 (xA X) := by
  refine Met.ofW (cc := cJ0_checkIndex_df160) (maxL := 2) (ret := none) (by decide) rfl ?_
  intro p e s m args below meth c s₁ B hml hv
  obtain ⟨rfl, hEv⟩ := hv
  have hx := B.exec
  have hb := B.bytes
  have hts0 := atoms_spec (ws := wsj yJ0_checkIndex_df160 cJ0_checkIndex_df160 2 none) B.pre
  have hts : ∀ w ∈ gw, w.before _ s = true := fun w hw => hts0 w (List.mem_cons_of_mem _ hw)
  have hown : s.vm.findClass RJ0 = some m.cls := findClass_of_methodNamed B.named
  have hS : va_S (xA X) s.heap s.heap [] := va_S.rf
  have hl := lv_entry ([.int (Int32.ofInt i), .int 63]) (n := 2) (Nat.le_of_ble_eq_true rfl)
  rw [lg_entry_eq]
  generalize (lg_sl ([.int (Int32.ofInt i), .int 63]) ++ List.replicate (2 - (lg_sl ([.int (Int32.ofInt i), .int 63])).length) Slot.unset).toArray = ls at hl ⊢
  refine lv_iload_n hx hb dJ0_checkIndex_df160_0 rfl (lv_at hl 0 rfl) ?_
  refine lv_iload_n hx hb dJ0_checkIndex_df160_1 rfl (lv_at hl 1 rfl) ?_
  have go : ∀ fv : Value, (fv = .null ∨ ∃ t, fv = .ref t) → W p (xl X) e (rmk 2) s m #[Value.int (Int32.ofInt i), Value.int 63] below meth c s.heap [] 0 0 (MQ below (QJ none) #[Value.int (Int32.ofInt i), Value.int 63] s 0 0 (xA X)) (F0 m 5 ls [fv, .int 63, .int (Int32.ofInt i)]) := by
    intro fv hfv
    refine jcall (va_runS (As := [.int (Int32.ofInt i), .int 63, fv]) (rest := []) ⟨hx, hb, hml, hown, hts⟩ (j_check3 X i hi fv hfv) ⟨callB_of 3 hts (wsj_good wj_check3) rfl rfl rfl (hts _ (gw_in (ini_J _ (by decide)) rfl)) (hts (.methodLink RJ0 1059 yJ3_checkIndex_8e157) (gw_in (by decide +kernel) rfl)) (by decide +kernel) ⟨by decide, by decide⟩, hts (.static yJ3_checkIndex_8e157) (gw_in (by decide +kernel) rfl)⟩ ⟨blind_J, fun U hU hW => ⟨rfl, Ev_go hEv hS hU hW⟩⟩ rfl rfl hl.1 rfl (lv_room (by decide)) dJ0_checkIndex_df160_5 ⟨Nat.zero_le _, Nat.zero_le _⟩) hS (fun locs1 hS1 => ?_)
    refine lv_pop hx hb dJ0_checkIndex_df160_8 rfl ?_
    exact W.vret hx hb B.returns (fun t ht _ => ⟨rfl, ht⟩) hS1.2.2 dJ0_checkIndex_df160_9 B.notSynchronized
  have hlk := hts (.fieldLink RJ0 1053 "jdk/internal/util/Preconditions" "SIOOBE_FORMATTER" "Ljava/util/function/BiFunction;") (gw_in (by decide +kernel) rfl)
  rcases hEv.2.2.2.2.2.2.2 with hZ | ⟨t0, hZ⟩
  · exact va_gets hx hb hZ hS hown hlk (fun _ q => q) dJ0_checkIndex_df160_2 (go _ (Or.inl rfl))
  · exact va_gets hx hb hZ hS hown hlk (fun _ q => q) dJ0_checkIndex_df160_2 (go _ (Or.inr ⟨_, rfl⟩))
theorem ch_ok : ∀ n : Nat, n < 63 → (((wordsB.getD n 0) &&& 255).toUInt32 % 65536).toInt32 = wordsB.getD n 0 ∧ Int32.ofInt ((wordsB.getD n 0).toInt) = wordsB.getD n 0 := by decide +kernel
theorem j_char1 (X : En) (i : Int) (hi : 0 ≤ i ∧ i < 63) : Met (xl X) yJ1_charAt_3b067 (wsj yJ1_charAt_3b067 cJ1_charAt_3b067 2 (some .char)) (rmk 3) (PcJ X [.ref (xa X 211), .int (Int32.ofInt i)]) (QJ (some (.int (Int32.ofInt (chW i))))) 0 0 (xA X) := by
  refine Met.ofW (cc := cJ1_charAt_3b067) (maxL := 2) (ret := (some .char)) (by decide) rfl ?_
  intro p e s m args below meth c s₁ B hml hv
  obtain ⟨rfl, hEv⟩ := hv
  have hx := B.exec
  have hb := B.bytes
  have hts0 := atoms_spec (ws := wsj yJ1_charAt_3b067 cJ1_charAt_3b067 2 (some .char)) B.pre
  have hts : ∀ w ∈ gw, w.before _ s = true := fun w hw => hts0 w (List.mem_cons_of_mem _ hw)
  have hown : s.vm.findClass RJ1 = some m.cls := findClass_of_methodNamed B.named
  have hS : va_S (xA X) s.heap s.heap [] := va_S.rf
  have hl := lv_entry ([.ref (xa X 211), .int (Int32.ofInt i)]) (n := 2) (Nat.le_of_ble_eq_true rfl)
  rw [lg_entry_eq]
  generalize (lg_sl ([.ref (xa X 211), .int (Int32.ofInt i)]) ++ List.replicate (2 - (lg_sl ([.ref (xa X 211), .int (Int32.ofInt i)])).length) Slot.unset).toArray = ls at hl ⊢
  obtain ⟨hO, hco, hva, hT⟩ := hEv.2.2.2.2.2.1.1 0 (by decide)
  have hin := i32_in (i := i) (n := 63) hi.1 hi.2 (by decide)
  have hcl := i32_clamp (i := i) (n := 63) hi.1 hi.2 (by decide)
  obtain ⟨hc1, hc2⟩ := ch_ok i.toNat (by omega)
  refine lv_iload_n hx hb dJ1_charAt_3b067_0 rfl (lv_at hl 1 rfl) ?_
  refine lv_aload_n hx hb dJ1_charAt_3b067_1 rfl (lv_at hl 0 rfl) ?_
  refine va_tlen (v := 63) hx hb hT hS rfl dJ1_charAt_3b067_2 ?_
  refine jcall (va_runS (As := [.int (Int32.ofInt i), .int 63]) (rest := []) ⟨hx, hb, hml, hown, hts⟩ (j_check0 X i hi) ⟨callB_of 2 hts (wsj_good wj_check0) rfl rfl rfl (hts _ (gw_in (ini_J _ (by decide)) rfl)) (hts (.methodLink RJ1 9 yJ0_checkIndex_df160) (gw_in (by decide +kernel) rfl)) (by decide +kernel) ⟨by decide, by decide⟩, hts (.static yJ0_checkIndex_df160) (gw_in (by decide +kernel) rfl)⟩ ⟨blind_J, fun U hU hW => ⟨rfl, Ev_go hEv hS hU hW⟩⟩ rfl rfl hl.1 rfl (lv_room (by decide)) dJ1_charAt_3b067_3 ⟨Nat.zero_le _, Nat.zero_le _⟩) hS (fun locs1 hS1 => ?_)
  refine lv_aload_n hx hb dJ1_charAt_3b067_6 rfl (lv_at hl 0 rfl) ?_
  refine lv_iload_n hx hb dJ1_charAt_3b067_7 rfl (lv_at hl 1 rfl) ?_
  refine va_tb hx hb hT hS1 hin (v := .int (wordsB.getD i.toNat 0)) (by rw [hcl]; rfl) dJ1_charAt_3b067_8 ?_
  refine lv_sipush (v := 255) hx hb dJ1_charAt_3b067_9 (by decide) ?_
  refine lv_iand hx hb dJ1_charAt_3b067_12 ?_
  refine lv_i2c (v := Int32.ofInt (chW i)) hx hb dJ1_charAt_3b067_13 (by rw [hc1, chW, hc2]) ?_
  refine W.zret hx hb B.returns ?_ (fun t ht _ => ⟨rfl, ht⟩) hS1.2.2 dJ1_charAt_3b067_14 B.notSynchronized
  rw [chW, hc2, ← hc1]
  exact pk_nc _
theorem j_char0 (X : En) (i : Int) (hi : 0 ≤ i ∧ i < 63) : Met (xl X) yJ0_charAt_5068e (wsj yJ0_charAt_5068e cJ0_charAt_5068e 2 (some .char)) (rmk 4) (PcJ X [.ref (xa X 210), .int (Int32.ofInt i)]) (QJ (some (.int (Int32.ofInt (chW i))))) 0 0 (xA X) := by
  refine Met.ofW (cc := cJ0_charAt_5068e) (maxL := 2) (ret := (some .char)) (by decide) rfl ?_
  intro p e s m args below meth c s₁ B hml hv
  obtain ⟨rfl, hEv⟩ := hv
  have hx := B.exec
  have hb := B.bytes
  have hts0 := atoms_spec (ws := wsj yJ0_charAt_5068e cJ0_charAt_5068e 2 (some .char)) B.pre
  have hts : ∀ w ∈ gw, w.before _ s = true := fun w hw => hts0 w (List.mem_cons_of_mem _ hw)
  have hown : s.vm.findClass RJ0 = some m.cls := findClass_of_methodNamed B.named
  have hS : va_S (xA X) s.heap s.heap [] := va_S.rf
  have hl := lv_entry ([.ref (xa X 210), .int (Int32.ofInt i)]) (n := 2) (Nat.le_of_ble_eq_true rfl)
  rw [lg_entry_eq]
  generalize (lg_sl ([.ref (xa X 210), .int (Int32.ofInt i)]) ++ List.replicate (2 - (lg_sl ([.ref (xa X 210), .int (Int32.ofInt i)])).length) Slot.unset).toArray = ls at hl ⊢
  obtain ⟨hO, hco, hva, hT⟩ := hEv.2.2.2.2.2.1.1 0 (by decide)
  obtain ⟨hc1, hc2⟩ := ch_ok i.toNat (by omega)
  refine lv_aload_n hx hb dJ0_charAt_5068e_0 rfl (lv_at hl 0 rfl) ?_
  refine jcall (va_runV (C := RJ0) (As := []) (rest := []) ⟨hx, hb, hml, hown, hts⟩ (j_isLatin1 X) ⟨callB_of 0 hts (wsj_good wj_isLatin1) rfl rfl rfl (hts _ (gw_in (ini_J _ (by decide)) rfl)) (hts (.methodLink RJ0 492 yJ0_isLatin1_aae02) (gw_in (by decide +kernel) rfl)) (by decide +kernel) ⟨by decide, by decide⟩, hts (.instanceMethod yJ0_isLatin1_aae02) (gw_in (by decide +kernel) rfl), hts (.selects RJ0 yJ0_isLatin1_aae02 yJ0_isLatin1_aae02) (gw_in (by decide +kernel) rfl)⟩ ⟨blind_J, vk_recv hEv.2.2.2.2.2.1 (i := 0) (by decide) hS, fun U hU hW => ⟨rfl, Ev_go hEv hS hU hW⟩⟩ rfl rfl hl.1 rfl (lv_room (by decide)) dJ0_charAt_5068e_1 ⟨Nat.zero_le _, Nat.zero_le _⟩) hS (fun locs1 hS1 => ?_)
  refine lv_if_eq (tgt := 16) hx hb dJ0_charAt_5068e_4 (by decide) (fun h => absurd h (by decide)) (fun _ => ?_)
  refine lv_aload_n hx hb dJ0_charAt_5068e_7 rfl (lv_at hl 0 rfl) ?_
  refine vk_getf hx hb hva hS1 hown (hts (.fieldLink RJ0 9 "java/lang/String" "value" "[B") (gw_in (by decide +kernel) rfl)) (fun _ q => q) dJ0_charAt_5068e_8 ?_
  refine lv_iload_n hx hb dJ0_charAt_5068e_11 rfl (lv_at hl 1 rfl) ?_
  refine jcall (va_runS (As := [.ref (xa X 211), .int (Int32.ofInt i)]) (rest := []) ⟨hx, hb, hml, hown, hts⟩ (j_char1 X i hi) ⟨callB_of 2 hts (wsj_good wj_char1) rfl rfl rfl (hts _ (gw_in (ini_J _ (by decide)) rfl)) (hts (.methodLink RJ0 495 yJ1_charAt_3b067) (gw_in (by decide +kernel) rfl)) (by decide +kernel) ⟨by decide, by decide⟩, hts (.static yJ1_charAt_3b067) (gw_in (by decide +kernel) rfl)⟩ ⟨blind_J, fun U hU hW => ⟨rfl, Ev_go hEv hS1 hU hW⟩⟩ rfl rfl hl.1 rfl (lv_room (by decide)) dJ0_charAt_5068e_12 ⟨Nat.zero_le _, Nat.zero_le _⟩) hS1 (fun locs2 hS2 => ?_)
  refine W.zret hx hb B.returns ?_ (fun t ht _ => ⟨rfl, ht⟩) hS2.2.2 dJ0_charAt_5068e_15 B.notSynchronized
  rw [chW, hc2, ← hc1]
  exact pk_nc _
variable {k : Nat}
/-- String.length() of the constant -/
theorem str_len {idx pc : Nat} {H : Heap} {locs : List Loc} {a : Array Slot} {ls : Lc} {rest : List MV} (hC : Cx X k p R s m args c) (hcs : cells ≤ R.cells ∧ slots ≤ R.slots) (hd : 6 ≤ mD k) (hlk : (Jvm.Cond.methodLink (cN (mO k)) idx ⟨"java/lang/String", "length", "()I"⟩).before args s = true) (h8 : csum rest ≤ 8) (hL : lv_has a (mL k) (la X ls))
    (hS : va_S (xA X) s.heap H locs) (hdg : decode (mC k) pc = .ok (.invokevirtual idx, 3)) (kk : ∀ (H1 : Heap) (locs1 : List Loc), H1 = H → va_S (xA X) s.heap H1 locs1 → W p (xl X) e R s m args below meth c H1 locs1 cells slots Q0 (F0 m (pc + 3) a (.int 63 :: rest.map (tv X)))) : W p (xl X) e R s m args below meth c H locs cells slots Q0 (F0 m pc a (.ref (xa X 210) :: rest.map (tv X))) := by
  obtain ⟨hXV, hx, hb, hml, hown, hts, hsz, hEv, hfr, hlo⟩ := id hC
  have hsum : ((rest.map (tv X)).map fun v => v.category).sum ≤ 8 := by rw [csum_tv]; exact h8
  refine jcall (va_runV (C := RJ0) (As := []) (rest := rest.map (tv X)) ⟨hx, hb, hml, hown, hts⟩ (j_length X) ⟨callB_of 0 hts (wsj_good wj_length) rfl rfl rfl (hts _ (gw_in (ini_J _ (by decide)) rfl)) hlk (by decide +kernel) ⟨by simp only [rmk]; omega, by simp only [rmk]; omega⟩, hts (.instanceMethod yJ0_length_8abf5) (gw_in (by decide +kernel) rfl), hts (.selects RJ0 yJ0_length_8abf5 yJ0_length_8abf5) (gw_in (by decide +kernel) rfl)⟩ ⟨blind_J, vk_recv hEv.2.2.2.2.2.1 (i := 0) (by decide) hS, fun U hU hW => ⟨rfl, Ev_go hEv hS hU hW⟩⟩ rfl rfl hL.1 rfl (lv_room hsum) hdg hcs) hS (fun locs1 hS1 => ?_)
  exact kk H locs1 rfl hS1
theorem str_char {idx pc : Nat} {i : Int} {H : Heap} {locs : List Loc} {a : Array Slot} {ls : Lc} {rest : List MV} (hC : Cx X k p R s m args c) (hcs : cells ≤ R.cells ∧ slots ≤ R.slots) (hd : 6 ≤ mD k) (hlk : (Jvm.Cond.methodLink (cN (mO k)) idx ⟨"java/lang/String", "charAt", "(I)C"⟩).before args s = true) (h8 : csum rest ≤ 8) (hL : lv_has a (mL k) (la X ls)) (hi : 0 ≤ i ∧ i < 63)
    (hS : va_S (xA X) s.heap H locs) (hdg : decode (mC k) pc = .ok (.invokevirtual idx, 3)) (kk : ∀ (H1 : Heap) (locs1 : List Loc), H1 = H → va_S (xA X) s.heap H1 locs1 → W p (xl X) e R s m args below meth c H1 locs1 cells slots Q0 (F0 m (pc + 3) a (.int (Int32.ofInt (chW i)) :: rest.map (tv X)))) : W p (xl X) e R s m args below meth c H locs cells slots Q0 (F0 m pc a (.int (Int32.ofInt i) :: .ref (xa X 210) :: rest.map (tv X))) := by
  obtain ⟨hXV, hx, hb, hml, hown, hts, hsz, hEv, hfr, hlo⟩ := id hC
  have hsum : ((rest.map (tv X)).map fun v => v.category).sum ≤ 8 := by rw [csum_tv]; exact h8
  refine jcall (va_runV (C := RJ0) (As := [.int (Int32.ofInt i)]) (rest := rest.map (tv X)) ⟨hx, hb, hml, hown, hts⟩ (j_char0 X i hi) ⟨callB_of 1 hts (wsj_good wj_char0) rfl rfl rfl (hts _ (gw_in (ini_J _ (by decide)) rfl)) hlk (by decide +kernel) ⟨by simp only [rmk]; omega, by simp only [rmk]; omega⟩, hts (.instanceMethod yJ0_charAt_5068e) (gw_in (by decide +kernel) rfl), hts (.selects RJ0 yJ0_charAt_5068e yJ0_charAt_5068e) (gw_in (by decide +kernel) rfl)⟩ ⟨blind_J, vk_recv hEv.2.2.2.2.2.1 (i := 0) (by decide) hS, fun U hU hW => ⟨rfl, Ev_go hEv hS hU hW⟩⟩ rfl rfl hL.1 rfl (lv_room hsum) hdg hcs) hS (fun locs1 hS1 => ?_)
  exact kk H locs1 rfl hS1
end JD
