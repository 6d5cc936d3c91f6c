/-! THE STEP, WHOLE; runs, and contracts -/
section STR
variable {X : En} {k : Nat} {p : Program} {e : Env} {R : Room} {s : State} {m : MethodId} {args : Array Value} {below : List Frame} {meth : Method} {c : Code} {cells slots : Nat} {Q0 : State → Prop}
theorem s_ldI {H : Heap} {locs : List Loc} {a : Array Slot} {ls : Lc} {st : List MV} {σ : Wd} {n i : Nat} {C : Nat → Lc → List MV → Wd → Prop} (h : cldI C n ls st σ (ld ls i)) (hS : va_S (xA X) s.heap H locs) (hP : va_P (xD X) vwCl (wd X σ) H) (hL : lv_has a (mL k) (la X ls)) (kk : ∀ pc' ls' st' σ', C pc' ls' st' σ' → WW X k p e R s m args below meth c cells slots Q0 pc' ls' st' σ') : ∃ x : Int, a[i]? = some (.val (.int (Int32.ofInt x))) ∧ W p (xl X) e R s m args below meth c H locs cells slots Q0 (F0 m n a (.int (Int32.ofInt x) :: st.map (tv X))) := by
  unfold cldI at h
  split at h
  next x hx => exact ⟨x, la_get hL hx, kk _ _ _ _ h H locs a hS hP hL⟩
  next => exact h.elim
theorem s_ldL {H : Heap} {locs : List Loc} {a : Array Slot} {ls : Lc} {st : List MV} {σ : Wd} {n i : Nat} {C : Nat → Lc → List MV → Wd → Prop} (h : cldL C n ls st σ (ld ls i)) (hS : va_S (xA X) s.heap H locs) (hP : va_P (xD X) vwCl (wd X σ) H) (hL : lv_has a (mL k) (la X ls)) (kk : ∀ pc' ls' st' σ', C pc' ls' st' σ' → WW X k p e R s m args below meth c cells slots Q0 pc' ls' st' σ') : ∃ x : Int, a[i]? = some (.val (.long (Int64.ofInt x))) ∧ W p (xl X) e R s m args below meth c H locs cells slots Q0 (F0 m n a (.long (Int64.ofInt x) :: st.map (tv X))) := by
  unfold cldL at h
  split at h
  next x hx => exact ⟨x, la_get hL hx, kk _ _ _ _ h H locs a hS hP hL⟩
  next => exact h.elim
theorem s_ldR {H : Heap} {locs : List Loc} {a : Array Slot} {ls : Lc} {st : List MV} {σ : Wd} {n i : Nat} {C : Nat → Lc → List MV → Wd → Prop} (h : cldR C n ls st σ (ld ls i)) (hS : va_S (xA X) s.heap H locs) (hP : va_P (xD X) vwCl (wd X σ) H) (hL : lv_has a (mL k) (la X ls)) (kk : ∀ pc' ls' st' σ', C pc' ls' st' σ' → WW X k p e R s m args below meth c cells slots Q0 pc' ls' st' σ') : ∃ x : Nat, a[i]? = some (.val (.ref (xa X x))) ∧ W p (xl X) e R s m args below meth c H locs cells slots Q0 (F0 m n a (.ref (xa X x) :: st.map (tv X))) := by
  unfold cldR at h
  split at h
  next x hx => exact ⟨x, la_get hL hx, kk _ _ _ _ h H locs a hS hP hL⟩
  next => exact h.elim
theorem s_stI {ls : Lc} {st : List MV} {σ : Wd} {n i : Nat} {C : Nat → Lc → List MV → Wd → Prop} (h : cstI k C n i ls σ st) : ∃ (x : Int) (r : List MV), st = vi x :: r ∧ lp ls i = false ∧ i < mL k ∧ C n (sto ls i (some (vi x))) r σ := by
  unfold cstI at h
  split at h
  next x r =>
    split at h
    next h1 h2 => exact ⟨x, r, rfl, h1, by simpa [Nat.blt_eq] using h2, h⟩
    next => exact h.elim
  next => exact h.elim
theorem s_stL {ls : Lc} {st : List MV} {σ : Wd} {n i : Nat} {C : Nat → Lc → List MV → Wd → Prop} (h : cstL k C n i ls σ st) : ∃ (x : Int) (r : List MV), st = vl x :: r ∧ lp ls i = false ∧ i + 1 < mL k ∧ C n (sto (sto ls i (some (vl x))) (i + 1) none) r σ := by
  unfold cstL at h
  split at h
  next x r =>
    split at h
    next h1 h2 => exact ⟨x, r, rfl, h1, by simpa [Nat.blt_eq] using h2, h⟩
    next => exact h.elim
  next => exact h.elim
set_option maxHeartbeats 4000000 in
theorem stp_sound {ins : Instr} {pc : Nat} {ls : Lc} {st : List MV} {σ : Wd} {C : Nat → Lc → List MV → Wd → Prop} {Q : Option MV → Wd → Prop} (hC : Cx X k p R s m args c) (hcs : cells ≤ R.cells ∧ slots ≤ R.slots) (hd : decode (mC k) pc = .ok (ins, iLen pc ins)) (hok : okI pc ins = true) (h : stp X k ins pc ls st σ C Q)
    (kk : ∀ pc' ls' st' σ', C pc' ls' st' σ' → WW X k p e R s m args below meth c cells slots Q0 pc' ls' st' σ')
    (kq : ∀ r σ' ls', Q r σ' → RT (mR k) r → decode (mC k) pc = .ok (retI r, 1) → WW X k p e R s m args below meth c cells slots Q0 pc ls' r.toList σ') : WW X k p e R s m args below meth c cells slots Q0 pc ls st σ := by
  intro H locs a hS hP hL
  obtain ⟨hXV, hx, hb, hml, hown, hts, hsz, hEv, hfr, hlo⟩ := id hC
  cases ins with
  | iconst n => exact lv_iconst hx hb hd rfl (kk _ _ _ _ h H locs a hS hP hL)
  | bipush n =>
    simp only [okI, Bool.and_eq_true, decide_eq_true_eq] at hok
    refine lv_bipush (v := Int32.ofInt n) hx hb hd ?_ (kk _ _ _ _ h H locs a hS hP hL)
    rw [← Int32.toInt_inj, Int8.toInt_toInt32, i32_t ⟨by omega, by omega⟩]
    exact Int8.toInt_ofInt_of_le (by simpa using hok.1) (by omega)
  | sipush n =>
    simp only [okI, Bool.and_eq_true, decide_eq_true_eq] at hok
    refine lv_sipush (v := Int32.ofInt n) hx hb hd ?_ (kk _ _ _ _ h H locs a hS hP hL)
    rw [← Int32.toInt_inj, Int16.toInt_toInt32, i32_t ⟨by omega, by omega⟩]
    exact Int16.toInt_ofInt_of_le (by simpa using hok.1) (by omega)
  | lconst n => exact lv_lconst (v := Int64.ofInt ((n : Nat) : Int)) hx hb hd rfl (kk _ _ _ _ h H locs a hS hP hL)
  | ldc idx =>
    simp only [stp] at h
    split at h
    next v hv =>
      obtain ⟨i, hi⟩ := zip_mem kIT kII kI_len _ (lookup_mem kIT hv)
      exact lv_ldc hx hb hown (hts _ (gw_in (tbl_in (kI_ok _ hi)) rfl)) hd (kk _ _ _ _ h H locs a hS hP hL)
    next =>
      obtain ⟨h1, hcc⟩ := cBo_inv h
      clear h
      simp only [Bool.and_eq_true, beq_iff_eq] at h1
      obtain ⟨h1, rfl⟩ := h1
      rw [h1] at hown
      exact va_ldcS hx hb hown hEv.2.2.2.2.1 hd (kk _ _ _ _ hcc H locs a hS hP hL)
  | ldc2_w idx =>
    obtain ⟨v, hv, h⟩ := cOp_inv h
    obtain ⟨i, hi⟩ := zip_mem kLT kLI kL_len _ (lookup_mem kLT hv)
    exact lv_ldc2 hx hb hown (hts _ (gw_in (tbl_in (kL_ok _ hi)) rfl)) hd (kk _ _ _ _ h H locs a hS hP hL)
  | iload i =>
    obtain ⟨x, h1, h2⟩ := s_ldI h hS hP hL kk
    exact lv_iload hx hb hd h1 h2
  | iload_n i =>
    obtain ⟨x, h1, h2⟩ := s_ldI h hS hP hL kk
    exact lv_iload_n hx hb hd rfl h1 h2
  | lload i =>
    obtain ⟨x, h1, h2⟩ := s_ldL h hS hP hL kk
    exact lv_lload hx hb hd h1 h2
  | lload_n i =>
    obtain ⟨x, h1, h2⟩ := s_ldL h hS hP hL kk
    exact lv_lload_n hx hb hd rfl h1 h2
  | aload i =>
    obtain ⟨x, h1, h2⟩ := s_ldR h hS hP hL kk
    exact lv_aload hx hb hd h1 h2
  | aload_n i =>
    obtain ⟨x, h1, h2⟩ := s_ldR h hS hP hL kk
    exact lv_aload_n hx hb hd rfl h1 h2
  | istore i =>
    obtain ⟨x, r, rfl, h1, h2, h⟩ := s_stI h
    exact lv_istore hx hb hd hL h2 rfl (fun a' hL' => kk _ _ _ _ h H locs a' hS hP (la_sto (w := vi x) h1 hL'))
  | istore_n i =>
    obtain ⟨x, r, rfl, h1, h2, h⟩ := s_stI h
    exact lv_istore_n hx hb hd rfl hL h2 rfl (fun a' hL' => kk _ _ _ _ h H locs a' hS hP (la_sto (w := vi x) h1 hL'))
  | lstore i =>
    obtain ⟨x, r, rfl, h1, h2, h⟩ := s_stL h
    exact lv_lstore hx hb hd hL h2 rfl (fun a' hL' => kk _ _ _ _ h H locs a' hS hP (la_sto2 (w := vl x) h1 hL'))
  | lstore_n i =>
    obtain ⟨x, r, rfl, h1, h2, h⟩ := s_stL h
    exact lv_lstore_n hx hb hd rfl hL h2 rfl (fun a' hL' => kk _ _ _ _ h H locs a' hS hP (la_sto2 (w := vl x) h1 hL'))
  | iinc i n =>
    simp only [stp] at h
    split at h
    next x h1 h2 h3 =>
      obtain ⟨j, hj⟩ := List.getElem?_of_mem (la_mem (X := X).mpr ⟨_, h1, rfl⟩)
      exact lv_iinc (v := Int32.ofInt (x + n)) hx hb hd hL hj (by rw [Int32.ofInt_add]) (by simpa [Nat.blt_eq] using h3) rfl (fun a' hL' => kk _ _ _ _ h H locs a' hS hP (la_sto (w := vi (x + n)) h2 hL'))
    next => exact h.elim
  | iadd =>
    obtain ⟨x, y, r, rfl, h⟩ := cII_inv h
    exact lv_iadd hx hb hd (by rw [← Int32.ofInt_add]; exact kk _ _ _ _ h H locs a hS hP hL)
  | isub =>
    obtain ⟨x, y, r, rfl, h⟩ := cII_inv h
    exact lv_isub hx hb hd (by rw [← Int32.ofInt_sub]; exact kk _ _ _ _ h H locs a hS hP hL)
  | imul =>
    obtain ⟨x, y, r, rfl, h⟩ := cII_inv h
    exact lv_imul hx hb hd (by rw [← Int32.ofInt_mul]; exact kk _ _ _ _ h H locs a hS hP hL)
  | idiv =>
    obtain ⟨x, y, r, rfl, hr, h⟩ := cII_inv h
    obtain ⟨e1, e2, -⟩ := i32_div hr
    exact lv_idiv hx hb hd e1 (by rw [e2]; exact kk _ _ _ _ h H locs a hS hP hL)
  | irem =>
    obtain ⟨x, y, r, rfl, hr, h⟩ := cII_inv h
    obtain ⟨e1, -, e2⟩ := i32_div hr
    exact lv_irem hx hb hd e1 (by rw [e2]; exact kk _ _ _ _ h H locs a hS hP hL)
  | iand =>
    obtain ⟨x, y, r, rfl, h⟩ := cII_inv h
    exact lv_iand hx hb hd (by have := kk _ _ _ _ h H locs a hS hP hL; simp only [List.map_cons, tv, bAnd, Int32.ofInt_toInt] at this; exact this)
  | ior =>
    obtain ⟨x, y, r, rfl, h⟩ := cII_inv h
    exact lv_ior hx hb hd (by have := kk _ _ _ _ h H locs a hS hP hL; simp only [List.map_cons, tv, bOr, Int32.ofInt_toInt] at this; exact this)
  | ishl =>
    obtain ⟨x, y, r, rfl, h⟩ := cII_inv h
    exact lv_ishl hx hb hd (by have := kk _ _ _ _ h H locs a hS hP hL; simp only [List.map_cons, tv, bShl, Int32.ofInt_toInt] at this; exact this)
  | ishr =>
    obtain ⟨x, y, r, rfl, h⟩ := cII_inv h
    exact lv_ishr hx hb hd (by have := kk _ _ _ _ h H locs a hS hP hL; simp only [List.map_cons, tv, bShr, Int32.ofInt_toInt] at this; exact this)
  | ladd =>
    obtain ⟨x, y, r, rfl, h⟩ := cLL_inv h
    exact lv_ladd hx hb hd (by rw [← Int64.ofInt_add]; exact kk _ _ _ _ h H locs a hS hP hL)
  | lsub =>
    obtain ⟨x, y, r, rfl, h⟩ := cLL_inv h
    exact lv_lsub hx hb hd (by rw [← Int64.ofInt_sub]; exact kk _ _ _ _ h H locs a hS hP hL)
  | lmul =>
    obtain ⟨x, y, r, rfl, h⟩ := cLL_inv h
    exact lv_lmul hx hb hd (by rw [← Int64.ofInt_mul]; exact kk _ _ _ _ h H locs a hS hP hL)
  | land =>
    obtain ⟨x, y, r, rfl, h⟩ := cLL_inv h
    exact lv_land hx hb hd (by have := kk _ _ _ _ h H locs a hS hP hL; simp only [List.map_cons, tv, lAnd, Int64.ofInt_toInt] at this; exact this)
  | lor =>
    obtain ⟨x, y, r, rfl, h⟩ := cLL_inv h
    exact lv_lor hx hb hd (by have := kk _ _ _ _ h H locs a hS hP hL; simp only [List.map_cons, tv, lOr, Int64.ofInt_toInt] at this; exact this)
  | lshl =>
    obtain ⟨x, y, r, rfl, h⟩ := cLI_inv h
    exact lv_lshl hx hb hd rfl (by have := kk _ _ _ _ h H locs a hS hP hL; simp only [List.map_cons, tv, lShl, Int64.ofInt_toInt] at this; exact this)
  | lshr =>
    obtain ⟨x, y, r, rfl, h⟩ := cLI_inv h
    exact lv_lshr hx hb hd rfl (by have := kk _ _ _ _ h H locs a hS hP hL; simp only [List.map_cons, tv, lShr, Int64.ofInt_toInt] at this; exact this)
  | lushr =>
    obtain ⟨x, y, r, rfl, h⟩ := cLI_inv h
    exact lv_lushr hx hb hd rfl (by have := kk _ _ _ _ h H locs a hS hP hL; simp only [List.map_cons, tv, lUshr, Int64.ofInt_toInt] at this; exact this)
  | lcmp =>
    obtain ⟨x, y, r, rfl, h1, h2, h⟩ := cLL_inv h
    exact W.lcmp hx hb hd (by rw [cmp3_ok h1 h2]; exact kk _ _ _ _ h H locs a hS hP hL)
  | i2l =>
    obtain ⟨x, r, rfl, h1, h⟩ := cI1_inv h
    exact lv_i2l hx hb hd (i2l_ok h1) (kk _ _ _ _ h H locs a hS hP hL)
  | l2i =>
    obtain ⟨x, r, rfl, h⟩ := cL1_inv h
    exact lv_l2i hx hb hd (l2i_ok x) (kk _ _ _ _ h H locs a hS hP hL)
  | dup =>
    simp only [stp] at h
    split at h
    · exact lv_dup hx hb hd rfl (kk _ _ _ _ h H locs a hS hP hL)
    · exact lv_dup hx hb hd rfl (kk _ _ _ _ h H locs a hS hP hL)
    · exact h.elim
  | dup2 =>
    simp only [stp] at h
    split at h
    · exact lv_dup2_11 hx hb hd rfl rfl (kk _ _ _ _ h H locs a hS hP hL)
    · exact h.elim
  | ifCond c0 off =>
    obtain ⟨x, r, rfl, h1, h2, h3⟩ := cI1_inv h
    exact s_if hx hb hd hok h1 (fun q => kk _ _ _ _ (h2 q) H locs a hS hP hL) (fun q => kk _ _ _ _ (h3 q) H locs a hS hP hL)
  | if_icmp c0 off =>
    obtain ⟨x, y, r, rfl, h1, h1', h2, h3⟩ := cII_inv h
    exact s_icmp hx hb hd hok h1 h1' (fun q => kk _ _ _ _ (h2 q) H locs a hS hP hL) (fun q => kk _ _ _ _ (h3 q) H locs a hS hP hL)
  | goto off => exact lv_goto (tgt := tgt pc off) hx hb hd (s_cmp hok) (kk _ _ _ _ h H locs a hS hP hL)
  | tableswitch d lo hi offs =>
    obtain ⟨x, r, rfl, h1, h2, h3⟩ := cI1_inv h
    simp only [okI, Bool.and_eq_true] at hok
    obtain ⟨ho1, ho2, ho3⟩ := hok
    have ho2 := of_decide_eq_true ho2
    have et : (Int32.ofInt x).toInt = x := i32_t h1
    by_cases hin : lo ≤ x ∧ x < lo + (offs.size : Int)
    · obtain ⟨o, q1, q2⟩ := swc_get offs.toList lo h2 hin.1 (by simpa using hin.2)
      refine lv_tableIn (tgt := tgt pc o) hx hb hd (by rw [et]; omega) (by rw [et]; omega) (off := o) (by rw [et]; simpa using q1) (s_cmp (List.all_eq_true.mp ho3 o (List.mem_of_getElem? q1))) (kk _ _ _ _ q2 H locs a hS hP hL)
    · refine lv_tableOut (tgt := tgt pc d) hx hb hd (by rw [et]; omega) (s_cmp ho1) (kk _ _ _ _ (h3 (by omega)) H locs a hS hP hL)
  | iaload => exact s_ald (z := false) hC hd h hS hP hL kk
  | baload => exact s_ald (z := true) hC hd h hS hP hL kk
  | iastore => exact s_ast (z := false) hC hd h hS hP hL kk
  | bastore => exact s_ast (z := true) hC hd h hS hP hL kk
  | arraylength =>
    obtain ⟨b, r, rfl, h'⟩ := cR1_inv h
    clear h
    have h := h'
    clear h'
    split at h
    next q har =>
      obtain ⟨z, n⟩ := q
      have hct := arr_ct har
      refine va_alen (v := Int32.ofInt (n : Int)) hx hb hEv.1 hP b (if z = true then 1 else 0) (wd_get hct) (ty := if z = true then .boolean else .int) ?_ rfl hd (kk _ _ _ _ h H locs a hS hP hL)
      cases z <;> rfl
    next =>
      obtain ⟨⟨n, f⟩, hro, h⟩ := cOp_inv h
      exact va_tlen (v := Int32.ofInt (n : Int)) hx hb (hEv.2.2.1 b n f hro) hS rfl hd (kk _ _ _ _ h H locs a hS hP hL)
  | getfield idx => exact s_get hC hd h hS hP hL kk
  | putfield idx => exact s_put hC hd h hS hP hL kk
  | getstatic idx =>
    obtain ⟨⟨b, z⟩, hlk, h⟩ := cOp_inv h
    obtain ⟨i, hi⟩ := zip_mem gsT gsI gs_len _ (lookup_mem gsT hlk)
    obtain ⟨hw, hb1, hb2⟩ := gs_ok _ hi
    simp only [gsW] at hw
    by_cases hz : z = 1
    · rw [if_pos hz] at hw
      exact va_getsN (own := cN (mO k)) (ref := "NotesBelow") (host := "NotesBelow") hx hb (hEv.2.2.2.1 b hb1 hb2) hS hown (va_Nw.use rfl (hEv.2.1 _ (nw_in (tbl_in hw) rfl))) (fun _ q => q) hd (kk _ _ _ _ h H locs a hS hP hL)
    · rw [if_neg hz] at hw
      exact va_gets (own := cN (mO k)) (ref := "NotesBelow") hx hb (hEv.2.2.2.1 b hb1 hb2) hS hown (hts _ (gw_in (tbl_in hw) rfl)) (fun _ q => q) hd (kk _ _ _ _ h H locs a hS hP hL)
  | invokevirtual idx =>
    obtain ⟨⟨k', n, z⟩, hlk, h⟩ := cOp_inv h
    obtain ⟨i, hi⟩ := zip_mem ivT ivI iv_len _ (lookup_mem ivT hlk)
    obtain ⟨hw, -⟩ := iv_ok _ hi
    dsimp only at h
    split at h
    next =>
      obtain ⟨b, r, rfl, h'⟩ := cR1_inv h
      clear h
      have h := h'
      clear h'
      obtain ⟨h1, hcc⟩ := cBo_inv h
      clear h
      simp only [Bool.and_eq_true, beq_iff_eq, Nat.ble_eq] at h1
      obtain ⟨⟨hb2, h8⟩, h6⟩ := h1
      subst hb2
      exact str_len hC hcs h6 (hts _ (gw_in (tbl_in hw) rfl)) h8 hL hS hd (fun H1 locs1 e1 hS1 => kk _ _ _ _ hcc H1 locs1 a hS1 (by rw [e1]; exact hP) hL)
    next =>
      obtain ⟨i, r, rfl, h'⟩ := cI1_inv h
      clear h
      have h := h'
      clear h'
      obtain ⟨b, r, rfl, h'⟩ := cR1_inv h
      clear h
      have h := h'
      clear h'
      obtain ⟨h1, hi, hcc⟩ := cBo_inv h
      clear h
      simp only [Bool.and_eq_true, beq_iff_eq, Nat.ble_eq] at h1
      obtain ⟨⟨hb2, h8⟩, h6⟩ := h1
      subst hb2
      exact str_char hC hcs h6 (hts _ (gw_in (tbl_in hw) rfl)) h8 hL hi hS hd (fun H1 locs1 e1 hS1 => kk _ _ _ _ hcc H1 locs1 a hS1 (by rw [e1]; exact hP) hL)
    next =>
      obtain ⟨⟨as, r0⟩, hpop, h⟩ := cOp_inv h
      obtain ⟨b, r, hr0, h⟩ := cR1_inv h
      obtain ⟨⟨ci, sl⟩, hob, h⟩ := cOp_inv h
      obtain ⟨h1, h⟩ := cBo_inv h
      simp only [Bool.and_eq_true, beq_iff_eq, Nat.blt_eq, Bool.not_eq_true'] at h1
      obtain ⟨⟨⟨h1, h2⟩, h3⟩, h4⟩ := h1
      obtain ⟨q1, q2⟩ := popn_ok _ _ _ _ _ hpop
      have hct := obj_ct hob
      have hr0 : r0 = vr b :: r := hr0
      have hcal : callC X k' C pc ls σ (vr b :: as) r := h
      clear h
      subst h1
      subst hr0
      exact call_own hC hcs h2 h4 hlk hS hP hL hcal (Or.inr ⟨h3, hd, b, as, sl, rfl, by simpa using q2, hct, by simpa using q1.symm⟩) kk
  | invokestatic idx =>
    obtain ⟨⟨k', n, z⟩, hlk, h⟩ := cOp_inv h
    obtain ⟨i, hi⟩ := zip_mem ivT ivI iv_len _ (lookup_mem ivT hlk)
    obtain ⟨hw, -⟩ := iv_ok _ hi
    dsimp only at h
    split at h
    next =>
      obtain ⟨x, y, r, rfl, h1, h2, h⟩ := cII_inv h
      obtain ⟨h3, h⟩ := cBo_inv h
      simp only [Bool.and_eq_true, Nat.ble_eq] at h3
      refine va_mmax hx hb (hml.trans hL.1.symm) hown (hts _ (gw_in (tbl_in hw) rfl)) (hts _ (gw_in (by decide +kernel) rfl)) (hts _ (gw_in (by decide +kernel) rfl)) (hts _ (gw_in (by decide +kernel) rfl)) (by omega) (by rw [csum_tv]; omega) hcs.1 hcs.2 hd ?_
      have e1 : (if Int32.ofInt x < Int32.ofInt y then Int32.ofInt y else Int32.ofInt x) = Int32.ofInt (max x y) := by
        by_cases q : x < y
        · rw [if_pos ((i32_lt h1 h2).mpr q), Int.max_eq_right (Int.le_of_lt q)]
        · rw [if_neg (fun z => q ((i32_lt h1 h2).mp z)), Int.max_eq_left (by omega)]
      rw [e1]
      exact kk _ _ _ _ h H locs a hS hP hL
    next =>
      obtain ⟨x, y, r, rfl, h1, h2, h⟩ := cII_inv h
      obtain ⟨h3, h⟩ := cBo_inv h
      simp only [Bool.and_eq_true, Nat.ble_eq] at h3
      refine va_mmin hx hb (hml.trans hL.1.symm) hown (hts _ (gw_in (tbl_in hw) rfl)) (hts _ (gw_in (by decide +kernel) rfl)) (hts _ (gw_in (by decide +kernel) rfl)) (hts _ (gw_in (by decide +kernel) rfl)) (by omega) (by rw [csum_tv]; omega) hcs.1 hcs.2 hd ?_
      have e1 : (if Int32.ofInt y < Int32.ofInt x then Int32.ofInt y else Int32.ofInt x) = Int32.ofInt (min x y) := by
        by_cases q : y < x
        · rw [if_pos ((i32_lt h2 h1).mpr q), Int.min_eq_right (Int.le_of_lt q)]
        · rw [if_neg (fun z => q ((i32_lt h2 h1).mp z)), Int.min_eq_left (by omega)]
      rw [e1]
      exact kk _ _ _ _ h H locs a hS hP hL
    next =>
      split at h
      next nn dp b sp aa r _ =>
        obtain ⟨⟨za, na⟩, ha, h⟩ := cOp_inv h
        obtain ⟨⟨zb, nb⟩, hbb, h⟩ := cOp_inv h
        obtain ⟨h3, ⟨g1, g2, g3, g4, g5⟩, hcc⟩ := cBo_inv h
        clear h
        simp only [Bool.and_eq_true, Nat.ble_eq, Bool.not_eq_true'] at h3
        obtain ⟨⟨⟨rfl, rfl⟩, h8⟩, hd3⟩ := h3
        have hca := arr_ct ha
        have hcb := arr_ct hbb
        have hna : na < 2 ^ 30 := arr_ok hca
        have hnb : nb < 2 ^ 30 := arr_ok hcb
        have rsp : iR sp := ⟨by omega, by simp only at g4; omega⟩
        have rdp : iR dp := ⟨by omega, by simp only at g5; omega⟩
        have rnn : iR nn := ⟨by omega, by simp only at g4; omega⟩
        have np : ∀ z : Int, 0 ≤ z → iR z → ¬ Int32.ofInt z < 0 := fun z z0 zr q => by
          have := (i32_lt zr iR_0).mp q
          omega
        have csp := i32_clamp (i := sp) (n := na + 1) g2 (by simp only at g4; omega) (by omega)
        have cdp := i32_clamp (i := dp) (n := nb + 1) g3 (by simp only at g5; omega) (by omega)
        have cnn := i32_clamp (i := nn) (n := nb + 1) g1 (by simp only at g5; omega) (by omega)
        refine va_copyi hx hb (hml.trans hL.1.symm) hown (hts _ (gw_in (tbl_in hw) rfl)) (hts _ (gw_in (by decide +kernel) rfl)) (hts _ (gw_in (by decide +kernel) rfl)) (hts _ (gw_in (by decide +kernel) rfl)) hEv.1 hP (wd_D hXV σ) hS aa b 0 0 (wd_get hca) (wd_get hcb) rfl rfl rfl (np sp g2 rsp) (np dp g3 rdp) (np nn g1 rnn) (by rw [csp, cnn]; simp only at g4; omega) (by rw [cdp, cnn]; simp only at g5; omega) (fun _ _ => rfl) (by omega) ?_ hd ?_
        · rw [csum_tv]
          have : nativeFrameWords "java/lang/System" "arraycopy" 5 ≤ 60 := by decide +kernel
          omega
        · intro H1 locs1 hP1 _ hS1
          have hrow := wcp_row (σ := σ) (a := aa) (b := b) g1 g2 g3 g4 g5 hna hnb
          have hP1 : va_P (xD X) vwCl ((wd X σ).set b (xa X b, .inl (xI X, nb, .inl (va_cpy (fun j : Nat => Int32.ofInt (σ (64 * aa) (j : Int))) (fun j : Nat => Int32.ofInt (σ (64 * b) (j : Int))) (Int32.ofInt sp).toNatClampNeg (Int32.ofInt dp).toNatClampNeg (Int32.ofInt nn).toNatClampNeg)))) H1 := hP1
          rw [hrow] at hP1
          have hset : (wd X σ).set b (xa X b, cont X (wcp σ (64 * aa) (64 * b) sp dp nn) b (.inr (false, nb))) = wd X (wcp σ (64 * aa) (64 * b) sp dp nn) := wd_set hcb wcp_off
          exact kk _ _ _ _ (hcc _ rfl) H1 locs1 a hS1 (by rw [← hset]; exact hP1) hL
      next => exact h.elim
    next =>
      obtain ⟨⟨as, r0⟩, hpop, h⟩ := cOp_inv h
      obtain ⟨h1, h⟩ := cBo_inv h
      simp only [Bool.and_eq_true, Nat.blt_eq] at h1
      obtain ⟨⟨h1, h2⟩, h3⟩ := h1
      obtain ⟨q1, q2⟩ := popn_ok _ _ _ _ _ hpop
      exact call_own hC hcs h1 h3 hlk hS hP hL h (Or.inl ⟨h2, hd, by simpa using q2, by simpa using q1.symm⟩) kk
  | ireturn =>
    simp only [stp] at h
    split at h
    next x hr => exact kq _ _ ls h (by rw [hr]; trivial) hd H locs a hS hP hL
    next x hr => exact kq _ _ ls h.2 (by rw [hr]; exact h.1) hd H locs a hS hP hL
    next => exact h.elim
  | lreturn =>
    simp only [stp] at h
    split at h
    next x hr => exact kq _ _ ls h (by rw [hr]; trivial) hd H locs a hS hP hL
    next => exact h.elim
  | return_ =>
    simp only [stp] at h
    split at h
    next hr => exact kq _ _ ls h (by rw [hr]; trivial) hd H locs a hS hP hL
    next => exact h.elim
  | _ => exact h.elim
end STR
