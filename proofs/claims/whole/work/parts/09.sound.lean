/-! ONE STEP OF THE SMALL MACHINE IS A STEP OF THE MACHINE -/
def fTy : Nat → Nat → FieldType := fun k => match k with
  | 0 => tyX0
  | 1 => tyX1
  | 2 => tyX2
  | 3 => tyX3
  | 4 => tyX4
  | 5 => tyX5
  | _ => tyX6
theorem fTy_ok : ∀ o, o < 7 → ∀ k, k < fN o → parseFieldDescriptor (fT o k).2.2.1 = some (fTy o k) := by
  intro o h
  match o, h with
  | 0, _ => exact tyX0_ok
  | 1, _ => exact tyX1_ok
  | 2, _ => exact tyX2_ok
  | 3, _ => exact tyX3_ok
  | 4, _ => exact tyX4_ok
  | 5, _ => exact tyX5_ok
  | 6, _ => exact tyX6_ok
theorem fNm_ok : ∀ o, o < 7 → ∀ a, a < fN o → ∀ b, b < fN o → a ≠ b → (fT o a).2.1 ≠ (fT o b).2.1 := by
  intro o h
  match o, h with
  | 0, _ => exact nmX0
  | 1, _ => exact nmX1
  | 2, _ => exact nmX2
  | 3, _ => exact nmX3
  | 4, _ => exact nmX4
  | 5, _ => exact nmX5
  | 6, _ => exact nmX6
theorem uws_tb : ∀ o, o < 7 → ∀ w ∈ u_ws (cN o) (fT o) (fN o), w ∈ lw_tbl ∧ goodWord w = true := by decide +kernel
theorem uws_in (o : Nat) (h : o < 7) : ∀ w ∈ u_ws (cN o) (fT o) (fN o), w ∈ gw := fun w hw => gw_in (uws_tb o h w hw).1 (uws_tb o h w hw).2
theorem cN_ne : ∀ o, o < 7 → cN o ≠ "java/lang/invoke/MethodHandle" ∧ cN o ≠ "java/lang/invoke/VarHandle" := by decide +kernel
theorem fT_cls : ∀ o, o < 7 → ∀ k, k < fN o → (fT o k).1 = cN o := by decide +kernel
def zTy : Nat → FieldType
  | 0 => .int
  | 1 => .boolean
  | _ => .long
def slOK (ci : Nat) : Nat → List (Nat ⊕ Nat) → Bool
  | _, [] => true
  | k, .inl _ :: r => slOK ci (k + 1) r
  | k, .inr z :: r => ((fT ci k).2.2.2 == false) && (decide (fTy ci k = zTy z) && (decide (z ≤ 2) && slOK ci (k + 1) r))
theorem slOK_get (ci : Nat) : ∀ (sl : List (Nat ⊕ Nat)) (b : Nat), slOK ci b sl = true → ∀ (k z : Nat), sl[k]? = some (.inr z) → (fT ci (b + k)).2.2.2 = false ∧ fTy ci (b + k) = zTy z ∧ z ≤ 2
  | [], _, _, k, z, h => by simp at h
  | .inl t :: r, b, hs, 0, z, h => by simp at h
  | .inl t :: r, b, hs, k + 1, z, h => by
    have := slOK_get ci r (b + 1) hs k z (by simpa using h)
    rw [show b + 1 + k = b + (k + 1) by omega] at this
    exact this
  | .inr y :: r, b, hs, 0, z, h => by
    simp only [slOK, Bool.and_eq_true, beq_iff_eq, decide_eq_true_eq] at hs
    have : y = z := by simpa using h
    subst this
    exact ⟨hs.1, hs.2.1, hs.2.2.1⟩
  | .inr y :: r, b, hs, k + 1, z, h => by
    simp only [slOK, Bool.and_eq_true, beq_iff_eq, decide_eq_true_eq] at hs
    have := slOK_get ci r (b + 1) hs.2.2.2 k z (by simpa using h)
    rw [show b + 1 + k = b + (k + 1) by omega] at this
    exact this
def cdOK : CDs → Bool
  | .inl (ci, sl) => decide (ci < 7) && (decide (sl.length = fN ci) && slOK ci 0 sl)
  | .inr (_, n) => decide (n < 1073741824)
theorem ct_ok : ∀ d ∈ ct, cdOK d = true := by decide +kernel
theorem obj_ct {c : Nat} {q : Nat × List (Nat ⊕ Nat)} (h : obj? c = some q) : ct[c]? = some (.inl q) := by
  unfold obj? at h
  split at h
  · cases h; assumption
  · cases h
theorem arr_ct {c : Nat} {q : Bool × Nat} (h : arr? c = some q) : ct[c]? = some (.inr q) := by
  unfold arr? at h
  split at h
  · cases h; assumption
  · cases h
theorem obj_ok {c : Nat} {q : Nat × List (Nat ⊕ Nat)} (h : ct[c]? = some (.inl q)) : q.1 < 7 ∧ q.2.length = fN q.1 ∧ slOK q.1 0 q.2 = true := by
  have := ct_ok _ (List.mem_of_getElem? h)
  simp only [cdOK, Bool.and_eq_true, decide_eq_true_eq] at this
  exact this
theorem arr_ok {c : Nat} {q : Bool × Nat} (h : ct[c]? = some (.inr q)) : q.2 < 2 ^ 30 := by
  have := ct_ok _ (List.mem_of_getElem? h)
  simp only [cdOK, decide_eq_true_eq] at this
  exact this
theorem popn_ok : ∀ (n : Nat) (acc st a r : List MV), popn n acc st = some (a, r) → a.reverse ++ r = acc.reverse ++ st ∧ a.length = acc.length + n
  | 0, acc, st, a, r, h => by cases h; exact ⟨rfl, rfl⟩
  | n + 1, acc, [], a, r, h => by cases h
  | n + 1, acc, v :: st, a, r, h => by
    obtain ⟨h1, h2⟩ := popn_ok n (v :: acc) st a r h
    refine ⟨by rw [h1]; simp, by rw [h2]; simp; omega⟩
/-! inversions -/
theorem cII_inv {F : Int → Int → List MV → Prop} {st : List MV} (h : cII F st) : ∃ x y r, st = vi y :: vi x :: r ∧ F x y r := by
  unfold cII at h
  split at h
  · exact ⟨_, _, _, rfl, h⟩
  · exact h.elim
theorem cLL_inv {F : Int → Int → List MV → Prop} {st : List MV} (h : cLL F st) : ∃ x y r, st = vl y :: vl x :: r ∧ F x y r := by
  unfold cLL at h
  split at h
  · exact ⟨_, _, _, rfl, h⟩
  · exact h.elim
theorem cLI_inv {F : Int → Int → List MV → Prop} {st : List MV} (h : cLI F st) : ∃ x y r, st = vi y :: vl x :: r ∧ F x y r := by
  unfold cLI at h
  split at h
  · exact ⟨_, _, _, rfl, h⟩
  · exact h.elim
theorem cI1_inv {F : Int → List MV → Prop} {st : List MV} (h : cI1 F st) : ∃ x r, st = vi x :: r ∧ F x r := by
  unfold cI1 at h
  split at h
  · exact ⟨_, _, rfl, h⟩
  · exact h.elim
theorem cL1_inv {F : Int → List MV → Prop} {st : List MV} (h : cL1 F st) : ∃ x r, st = vl x :: r ∧ F x r := by
  unfold cL1 at h
  split at h
  · exact ⟨_, _, rfl, h⟩
  · exact h.elim
theorem cR1_inv {F : Nat → List MV → Prop} {st : List MV} (h : cR1 F st) : ∃ x r, st = vr x :: r ∧ F x r := by
  unfold cR1 at h
  split at h
  · exact ⟨_, _, rfl, h⟩
  · exact h.elim
theorem cOp_inv {α : Type} {F : α → Prop} {o : Option α} (h : cOp F o) : ∃ v, o = some v ∧ F v := by
  cases o with
  | none => exact h.elim
  | some v => exact ⟨v, rfl, h⟩
theorem cBo_inv {F : Prop} {b : Bool} (h : cBo F b) : b = true ∧ F := by
  cases b with
  | true => exact ⟨rfl, h⟩
  | false => exact h.elim
/-! what goes with a state -/
theorem nest_on {w : Jvm.Cond} (h : w ∈ nw) : w.onTables = true := by
  have := (List.mem_filter.mp h).2
  unfold isNest at this
  split at this <;> first | rfl | cases this
theorem nest_warm {w : Jvm.Cond} (h : w ∈ nw) {s U : State} (hW : s.WarmedH U.vm) (hw : va_Nw w s) : va_Nw w U := by
  have := (List.mem_filter.mp h).2
  unfold isNest at this
  split at this
  · exact va_Nw.warmF hW hw
  · exact va_Nw.warmM hW hw
  · cases this
theorem Ev_call {X : En} {U V : State} (hv : V.vm = U.vm) (hh : V.heap = U.heap) (h : Ev X U) : Ev X V := by
  obtain ⟨h1, h2, h3, h4, h5, h6, h7, h8⟩ := h
  have al : U.vm.Alike V.vm := by rw [hv]; exact Vm.Alike.refl U.vm
  refine ⟨va_K.moved al h1, fun w hw => va_Nw.same (nest_on hw) hv.symm (h2 w hw), fun c N f hc => ?_, fun c a b => ?_, vk_R.same hv h5, ?_, ?_, ?_⟩
  · rw [hh]; exact va_T.moved al (h3 c N f hc)
  · rw [hh]; exact va_Z.moved al (h4 c a b)
  · rw [hh]; exact vk_S.moved al h6
  · rw [hh]; exact va_Z.moved al h7
  · rw [hh]; exact va_Zq.moved al h8
theorem Ev_go {X : En} {s U : State} {H : Heap} {locs : List Loc} (h : Ev X s) (hS : va_S (xA X) s.heap H locs) (hH : U.heap = H) (hW : s.WarmedH U.vm) : Ev X U := by
  obtain ⟨h1, h2, h3, h4, h5, h6, h7, h8⟩ := h
  have al : s.vm.Alike U.vm := hW.alike
  subst hH
  refine ⟨va_K.moved al h1, fun w hw => nest_warm hw hW (h2 w hw), fun c N f hc => va_T.moved al ((h3 c N f hc).kept hS.2.1), fun c a b => va_Z.moved al ((h4 c a b).kept hS.2.1), vk_R.warm hW h5, vk_S.moved al (h6.kept hS.2.1), va_Z.moved al (h7.kept hS.2.1), va_Zq.moved al (h8.kept hS.2.1)⟩
/-- what is known of a method at work -/
def Cx (X : En) (k : Nat) (p : Program) (R : Room) (s : State) (m : MethodId) (args : Array Value) (c : Code) : Prop :=
  XV X ∧ p.tables.exec = Jvm.exec ∧ c.code = mC k ∧ c.maxLocals = mL k ∧ s.vm.findClass (cN (mO k)) = some m.cls ∧ (∀ w ∈ gw, w.before args s = true) ∧ xN X ≤ s.heap.size ∧ Ev X s ∧ mD k ≤ R.frames ∧ 38 * mD k ≤ R.locals
/-- the machine at a state of the small machine -/
def WW (X : En) (k : Nat) (p : Program) (e : Env) (R : Room) (s : State) (m : MethodId) (args : Array Value) (below : List Frame) (meth : Method) (c : Code) (cells slots : Nat) (Q0 : State → Prop) (pc : Nat) (ls : Lc) (st : List MV) (σ : Wd) : Prop :=
  ∀ (H : Heap) (locs : List Loc) (a : Array Slot), va_S (xA X) s.heap H locs → va_P (xD X) vwCl (wd X σ) H → lv_has a (mL k) (la X ls) → W p (xl X) e R s m args below meth c H locs cells slots Q0 (F0 m pc a (st.map (tv X)))
def retI : Option MV → Instr
  | some (.inl _) => .ireturn
  | some (.inr _) => .lreturn
  | none => .return_
def RT : Option FieldType → Option MV → Prop
  | some .int, some (.inl _) => True
  | some .boolean, some (.inl x) => x = 0 ∨ x = 1
  | some .long, some (.inr (.inl _)) => True
  | none, none => True
  | _, _ => False
section SND
variable {X : En} {k : Nat} {p : Program} {e : Env} {R : Room} {s : State} {m : MethodId} {args : Array Value} {below : List Frame} {meth : Method} {c : Code} {cells slots : Nat} {Q0 : State → Prop}
theorem my_call {H : Heap} {locs : List Loc} {pc : Nat} {a : Array Slot} {st0 rest : List MV} {av : Array Value} {Q' : Option MV → Wd → Prop} (hr : va_Run p (xl X) e R s m args below meth c H locs cells slots 0 0 (F0 m pc a (st0.map (tv X))) (rest.map (tv X)) (QcT X Q' av) (xA X)) (hS : va_S (xA X) s.heap H locs)
    (kk : ∀ (r : Option MV) (σ : Wd) (H1 : Heap) (locs1 : List Loc), Q' r σ → va_P (xD X) vwCl (wd X σ) H1 → va_S (xA X) s.heap H1 locs1 → W p (xl X) e R s m args below meth c H1 locs1 cells slots Q0 (F0 m (pc + 3) a ((r.toList ++ rest).map (tv X)))) : W p (xl X) e R s m args below meth c H locs cells slots Q0 (F0 m pc a (st0.map (tv X))) := by
  intro T hT XX
  obtain ⟨v, st₀, t, T', L, h0, X', hL, e1, e2, ⟨⟨r, σ, hv, hq, hP⟩, hz, hk⟩, st⟩ := hr T hT XX
  cases hv
  rw [h0] at hz hk
  have hS' : va_S (xA X) s.heap T'.heap (locs ++ L) := by
    refine ⟨Nat.le_trans hS.1 (by rw [e1]; exact hz), fun q h1 h2 => by rw [e1, hk q (Nat.lt_of_lt_of_le h1 hS.1) h2]; exact hS.2.1 q h1 h2, fun q hq => ?_⟩
    rcases List.mem_append.mp hq with h | h
    · exact hS.2.2 q h
    · exact hL q h
  obtain ⟨t2, a1, b1⟩ := kk r σ T'.heap (locs ++ L) hq (by rw [e1]; exact hP) hS' T' rfl X'
  refine ⟨t2, st t2 ?_, b1⟩
  have e3 : (r.map (tv X)).toList ++ rest.map (tv X) = (r.toList ++ rest).map (tv X) := by cases r <;> rfl
  show Steps _ _ _ (T'.setTop { F0 m pc a (st0.map (tv X)) with pc := pc + 3, stack := (r.map (tv X)).toList ++ rest.map (tv X) }) t2
  rw [e3]
  exact a1
theorem blind_T {as : List MV} {σ : Wd} : FrameBlind (PcT X as σ) := by
  intro a U g mk h
  obtain ⟨h1, h2, h3, h4⟩ := h
  exact ⟨h1, h2, Ev_call (U := U) rfl rfl h3, h4⟩
theorem gw_good {w : Jvm.Cond} (h : w ∈ gw) : (w.onTables && w.keeps) = true ∨ ∃ ty, w = .arrayClass ty := good_of_word (List.mem_filter.mp h).2
theorem wsk_good {k' : Nat} (h : k' < 141) : GoodIn gw (wsk k') := by
  intro w hw
  rcases List.mem_cons.mp hw with rfl | hw
  · have := gw_in (tbl_in (code_ok k' h)) rfl
    exact ⟨this, gw_good this⟩
  · exact ⟨hw, gw_good hw⟩
theorem cRet_ok {C : Nat → Lc → List MV → Wd → Prop} {pc : Nat} {ls : Lc} {st : List MV} {t : Option FieldType} {r : Option MV} {σ : Wd} (h : cRet C pc ls st t r σ) : C (pc + 3) ls (r.toList ++ st) σ := by
  unfold cRet at h
  split at h
  · unfold QI at h
    split at h
    · exact h
    · exact h.elim
  · unfold QI at h
    split at h
    · exact h
    · exact h.elim
  · unfold QL at h
    split at h
    · exact h
    · exact h.elim
  · unfold QV at h
    split at h
    · exact h
    · exact h.elim
  · exact h.elim
/-- a call of a method of ours -/
theorem call_own {k' n idx z : Nat} {H : Heap} {locs : List Loc} {pc : Nat} {a : Array Slot} {ls : Lc} {st as rest : List MV} {σ : Wd} {C : Nat → Lc → List MV → Wd → Prop}
    (hC : Cx X k p R s m args c) (hcs : cells ≤ R.cells ∧ slots ≤ R.slots) (hk' : k' < 141) (hd : mD k' < mD k) (hlk : ivT.lookup (mO k, idx) = some (k', n, z))
    (hS : va_S (xA X) s.heap H locs) (hP : va_P (xD X) vwCl (wd X σ) H) (hL : lv_has a (mL k) (la X ls)) (hcall : callC X k' C pc ls σ as rest)
    (hform : (mS k' = true ∧ decode (mC k) pc = .ok (.invokestatic idx, 3) ∧ as.length = n ∧ st = as.reverse ++ rest) ∨ (mS k' = false ∧ decode (mC k) pc = .ok (.invokevirtual idx, 3) ∧ ∃ (b : Nat) (as' : List MV) (sl : List (Nat ⊕ Nat)), as = vr b :: as' ∧ as'.length = n ∧ ct[b]? = some (.inl (mO k', sl)) ∧ st = as'.reverse ++ vr b :: rest))
    (kk : ∀ pc' ls' st' σ', C pc' ls' st' σ' → WW X k p e R s m args below meth c cells slots Q0 pc' ls' st' σ') : W p (xl X) e R s m args below meth c H locs cells slots Q0 (F0 m pc a (st.map (tv X))) := by
  obtain ⟨hXV, hx, hb, hml, hown, hts, hsz, hEv, hfr, hlo⟩ := id hC
  obtain ⟨hb8, hTr⟩ := cBo_inv hcall
  have h8 : csum rest ≤ 8 := Nat.le_of_ble_eq_true hb8
  obtain ⟨hcls, hmL, hmO, hpl⟩ := me_ok k' hk'
  obtain ⟨i, hi⟩ := zip_mem ivT ivI iv_len _ (lookup_mem ivT hlk)
  obtain ⟨hw, hpar⟩ := iv_ok _ hi
  have hpar := hpar hk'
  have ne1 : k' ≠ 900 := by omega
  have ne2 : k' ≠ 901 := by omega
  have ne3 : k' ≠ 902 := by omega
  have ne4 : k' ≠ 910 := by omega
  have ne5 : k' ≠ 911 := by omega
  simp only [ivW, ne1, ne2, ne3, ne4, ne5, if_false] at hw hpar
  have hmh := cN_ne _ hmO
  rw [← hcls] at hmh
  have hini : (Jvm.Cond.initialized (mY k').cls).before args s = true := by
    rw [hcls]
    exact hts _ (gw_in (ini_ok _ hmO) rfl)
  have hsum : ((rest.map (tv X)).map fun v => v.category).sum ≤ 8 := by rw [csum_tv]; exact h8
  have hR : (rmk (mD k')).frames + 1 ≤ R.frames ∧ 8 + (mL k' + 11) + (rmk (mD k')).locals ≤ R.locals := by
    simp only [rmk]
    constructor <;> omega
  have hU : ∀ U : State, U.heap = H → s.WarmedH U.vm → PcT X as σ (as.map (tv X)).toArray U := fun U hU hW => ⟨rfl, by rw [hU]; exact Nat.le_trans hsz hS.1, Ev_go hEv hS hU hW, by rw [hU]; exact hP⟩
  have fin : ∀ (r : Option MV) (σ' : Wd) (H1 : Heap) (locs1 : List Loc), cRet C pc ls rest (mR k') r σ' → va_P (xD X) vwCl (wd X σ') H1 → va_S (xA X) s.heap H1 locs1 → W p (xl X) e R s m args below meth c H1 locs1 cells slots Q0 (F0 m (pc + 3) a ((r.toList ++ rest).map (tv X))) :=
    fun r σ' H1 locs1 hc hP1 hS1 => kk _ _ _ _ (cRet_ok hc) H1 locs1 a hS1 hP1 hL
  rcases hform with ⟨hst, hdg, hn, rfl⟩ | ⟨hst, hdg, b, as', sl, rfl, hn, hb', rfl⟩
  · have hsw : (Jvm.Cond.static (mY k')).before args s = true := hts _ (gw_in (tbl_in (st_ok k' hk' hst)) rfl)
    have hstk : (F0 m pc a ((as.reverse ++ rest).map (tv X))).stack = (as.map (tv X)).reverse ++ rest.map (tv X) := by simp
    by_cases hz : z = 1
    · rw [if_pos hz] at hw
      have hl : va_Nw (.methodLinkNest (cN (mO k)) idx (mY k') "NotesBelow") s := hEv.2.1 _ (nw_in (tbl_in hw) rfl)
      refine my_call (va_runSN (As := as.map (tv X)) ⟨hx, hb, hml, hown, hts⟩ hTr ⟨va_cnB n hts (wsk_good hk') rfl rfl rfl hl hini ⟨hmh.1, hmh.2, hpar⟩ hR, hsw, trivial⟩ ⟨blind_T, hU⟩ rfl (by simp [hn]) hL.1 hstk (lv_room hsum) hdg hcs) hS fin
    · rw [if_neg hz] at hw
      refine my_call (va_runS (As := as.map (tv X)) ⟨hx, hb, hml, hown, hts⟩ hTr ⟨callB_of n hts (wsk_good hk') rfl rfl rfl hini (hts _ (gw_in (tbl_in hw) rfl)) ⟨hmh.1, hmh.2, hpar⟩ hR, hsw⟩ ⟨blind_T, hU⟩ rfl (by simp [hn]) hL.1 hstk (lv_room hsum) hdg hcs) hS fin
  · obtain ⟨hi1, hi2⟩ := in_ok k' hk' hst
    have hsw : (Jvm.Cond.instanceMethod (mY k')).before args s = true := hts _ (gw_in (tbl_in hi1) rfl)
    have hsl : (Jvm.Cond.selects (cN (mO k')) (mY k') (mY k')).before args s = true := hts _ (gw_in (tbl_in hi2) rfl)
    have hstk : (F0 m pc a ((as'.reverse ++ vr b :: rest).map (tv X))).stack = (as'.map (tv X)).reverse ++ .ref (xa X b) :: rest.map (tv X) := by simp [tv]
    have hrec := va_recv hEv.1 hP (cl_ok _ hmO) (wd_get hb')
    by_cases hz : z = 1
    · rw [if_pos hz] at hw
      have hl : va_Nw (.methodLinkNest (cN (mO k)) idx (mY k') "NotesBelow") s := hEv.2.1 _ (nw_in (tbl_in hw) rfl)
      refine my_call (va_runVN (As := as'.map (tv X)) ⟨hx, hb, hml, hown, hts⟩ hTr ⟨va_cnB n hts (wsk_good hk') rfl rfl rfl hl hini ⟨hmh.1, hmh.2, hpar⟩ hR, hsw, hsl⟩ ⟨blind_T, hrec, hU⟩ rfl (by simp [hn]) hL.1 hstk (lv_room hsum) hdg hcs) hS fin
    · rw [if_neg hz] at hw
      refine my_call (va_runV (As := as'.map (tv X)) ⟨hx, hb, hml, hown, hts⟩ hTr ⟨callB_of n hts (wsk_good hk') rfl rfl rfl hini (hts _ (gw_in (tbl_in hw) rfl)) ⟨hmh.1, hmh.2, hpar⟩ hR, hsw, hsl⟩ ⟨blind_T, hrec, hU⟩ rfl (by simp [hn]) hL.1 hstk (lv_room hsum) hdg hcs) hS fin
end SND
