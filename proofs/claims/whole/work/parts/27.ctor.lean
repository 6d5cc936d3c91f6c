/-! CONSTRUCTORS: a row of fields, each with a new array, a new object, or a number -/
/-- a world grown by a call that may only touch one of its cells, and new ones -/
theorem my_join {A0 : Nat → Prop} {D : va_G} {cl : List vw_C} {ws w1 : va_W} {q sz : Nat} {x : va_E} {H H1 : Heap} (hP : va_P D cl (ws ++ [(q, x)]) H) (hD : va_D A0 (ws ++ [(q, x)])) (hsz : sz = H.size)
    (hk : ∀ a : Nat, a < H.size → ¬ va_A [(q, x)] sz a → H1[a]? = H[a]?) (hF : ∀ a, va_A [(q, x)] sz a → A0 a) (hP1 : va_P D cl w1 H1) (hD1 : va_D (va_A [(q, x)] sz) w1) : va_P D cl (ws ++ w1) H1 ∧ va_D A0 (ws ++ w1) := by
  subst hsz
  have hq : (ws ++ [(q, x)])[ws.length]? = some (q, x) := by simp
  have key : ∀ (k : Nat) (y : Nat × va_E), ws[k]? = some y → y.1 < H.size ∧ ¬ va_A [(q, x)] H.size y.1 := by
    intro k y hy
    have hkl := (List.getElem?_eq_some_iff.mp hy).1
    have hy' : (ws ++ [(q, x)])[k]? = some y := by rw [List.getElem?_append_left hkl]; exact hy
    have hlt := (hP k y hy').lt
    refine ⟨hlt, ?_⟩
    rintro (⟨j, e, hj⟩ | h)
    · have hj0 : j < 1 := (List.getElem?_eq_some_iff.mp hj).1
      rw [show j = 0 by omega] at hj
      have hj1 : (q, x) = (y.1, e) := Option.some.inj hj
      have hj2 : q = y.1 := congrArg Prod.fst hj1
      have := hD.1 k ws.length y (q, x) hy' hq hj2.symm
      omega
    · omega
  refine ⟨va_P.app (fun k y hy => ?_) hP1, va_D.app ⟨fun i j a b hi hj hab => ?_, fun k y hy => ?_⟩ (hD1.weaken fun k y _ h => hF y.1 h) (fun i j a b hi hj hab => ?_)⟩
  · have hkl := (List.getElem?_eq_some_iff.mp hy).1
    exact (hP k y (by rw [List.getElem?_append_left hkl]; exact hy)).kept (hk y.1 (key k y hy).1 (key k y hy).2)
  · have h1 := (List.getElem?_eq_some_iff.mp hi).1
    have h2 := (List.getElem?_eq_some_iff.mp hj).1
    exact hD.1 i j a b (by rw [List.getElem?_append_left h1]; exact hi) (by rw [List.getElem?_append_left h2]; exact hj) hab
  · have h1 := (List.getElem?_eq_some_iff.mp hy).1
    exact hD.2 k y (by rw [List.getElem?_append_left h1]; exact hy)
  · exact (key i a hi).2 (by rw [hab]; exact hD1.2 j b hj)
/-- what is known of a constructor at work -/
def Kx (D : va_G) (cI cZ : ClassId) (o : Nat) (cc : ByteArray) (nL : Nat) (p : Program) (R : Room) (s : State) (m : MethodId) (args : Array Value) (meth : Method) (c : Code) (A : Nat → Prop) : Prop :=
  p.tables.exec = Jvm.exec ∧ c.code = cc ∧ c.maxLocals = nL ∧ s.vm.findClass (cN o) = some m.cls ∧ (∀ w ∈ gw, w.before args s = true) ∧ va_K D vwCl [(cI, .int), (cZ, .boolean)] s ∧ meth.name = "<init>" ∧ (∀ q, s.heap.size ≤ q → A q) ∧ (∀ w ∈ nw, va_Nw w s) ∧ 60 ≤ R.locals ∧ 1 ≤ R.frames
def CTpre (D : va_G) (cI cZ : ClassId) (h0 sz o : Nat) (fs0 : List Value) : State → Prop := fun U => U.heap.size = sz ∧ va_P D vwCl [(h0, .inr (o, fs0))] U.heap ∧ va_K D vwCl [(cI, .int), (cZ, .boolean)] U ∧ ∀ w ∈ nw, va_Nw w U
def CTpost (D : va_G) (h0 sz o : Nat) (fs0 : List Value) (post : Nat → List Nat → va_W) (nq : Nat) : Array Value → State → Outcome → State → Prop := fun _ st oc t =>
  (oc = .returned none ∧ ∃ qs : List Nat, qs.length = nq ∧ va_P D vwCl (post h0 qs) t.heap ∧ va_D (va_A [(h0, .inr (o, fs0))] sz) (post h0 qs)) ∧ va_F (va_A [(h0, .inr (o, fs0))] sz) st t
/-- a constructor's contract: its object, with what it makes -/
def CT (l : Launch) (D : va_G) (cI cZ : ClassId) (y : MethodName) (b : ByteArray) (nL : Nat) (o : Nat) (fs0 : List Value) (post : Nat → List Nat → va_W) (nq d mc ms : Nat) : Prop :=
  ∀ h0 sz : Nat, Met l y (wsj y b nL none) { frames := d, cells := mc, slots := ms, locals := 60 * d } (va_Pc [.ref h0] (CTpre D cI cZ h0 sz o fs0)) (CTpost D h0 sz o fs0 post nq) mc ms (va_A [(h0, .inr (o, fs0))] sz)
theorem blind_CT {D : va_G} {cI cZ : ClassId} {h0 sz o : Nat} {fs0 : List Value} : FrameBlind (va_Pc [.ref h0] (CTpre D cI cZ h0 sz o fs0)) := by
  intro a U g mk h
  obtain ⟨h1, h2, h3, h4, h5⟩ := h
  exact ⟨h1, h2, h3, va_K.moved (u := U) (U := U.calling g mk a) (Vm.Alike.refl U.vm) h4, fun w hw => va_Nw.same (u := U) (U := U.calling g mk a) (nest_on hw) rfl (h5 w hw)⟩
def tZ (z : Bool) : ArrayType := if z = true then .boolean else .int
section KT
variable {D : va_G} {cI cZ : ClassId} {o nL : Nat} {cc : ByteArray} {p : Program} {l : Launch} {e : Env} {R : Room} {s : State} {m : MethodId} {args : Array Value} {below : List Frame} {meth : Method} {c : Code} {A : Nat → Prop} {H : Heap} {locs : List Loc} {cells slots : Nat} {Q0 : State → Prop} {ls : Array Slot} {h0 : Nat} {fs : List Value} {Wl : va_W}
/-- a final field (or not) of the object gets its value -/
theorem K_put {pc k idx : Nat} {v : Value} {rest : List Value} (hC : Kx D cI cZ o cc nL p R s m args meth c A) (ho : o < 7) (hP : va_P D vwCl ((h0, .inr (o, fs)) :: Wl) H) (hD : va_D A ((h0, .inr (o, fs)) :: Wl)) (hS : va_S A s.heap H locs) (hk : k < fN o) (hl : k < fs.length) (hlk : flT.lookup (o, idx) = some (o, k, 0)) (hn : narrow (fTy o k) v = v) (hf : fits (fTy o k) v = true) (hd : decode cc pc = .ok (.putfield idx, 3))
    (kk : ∀ (H1 : Heap) (locs1 : List Loc), va_P D vwCl ((h0, .inr (o, fs.set k v)) :: Wl) H1 → va_D A ((h0, .inr (o, fs.set k v)) :: Wl) → va_S A s.heap H1 locs1 → W p l e R s m args below meth c H1 locs1 cells slots Q0 (F0 m (pc + 3) ls rest)) : W p l e R s m args below meth c H locs cells slots Q0 (F0 m pc ls (v :: .ref h0 :: rest)) := by
  obtain ⟨hx, hb, hml, hown, hts, hK, hin, hA, hnw, -, -⟩ := hC
  obtain ⟨i, hi⟩ := zip_mem flT flI fl_len _ (lookup_mem flT hlk)
  obtain ⟨hw, -, -, -⟩ := fl_ok _ hi
  simp only [flW] at hw
  rw [if_neg (by decide)] at hw
  have hlink := hts _ (gw_in (tbl_in hw) rfl)
  have hpd := fTy_ok o ho k hk
  by_cases hfin : (fT o k).2.2.2 = true
  · exact va_putF (own := cN o) (ref := cN o) hx hb hts (uws_in _ ho) (fTy o) (fTy_ok o ho) (fNm_ok o ho) hown hK hP hD hS 0 rfl (cl_ok _ ho) k hk hlink (fun x hx => by rw [fT_cls _ ho k hk] at hx; exact hx) hfin hin (fT_cls _ ho k hk) hpd hn hf hl hd kk
  · exact va_put (own := cN o) (ref := cN o) hx hb hts (uws_in _ ho) (fTy o) (fTy_ok o ho) (fNm_ok o ho) hown hK hP hD hS 0 rfl (cl_ok _ ho) k hk hlink (fun x hx => by rw [fT_cls _ ho k hk] at hx; exact hx) (by simpa using hfin) hpd hn hf hl hd kk
/-- a new array into a field -/
theorem K_arr {pc ln k idx n : Nat} (z : Bool) (hC : Kx D cI cZ o cc nL p R s m args meth c A) (ho : o < 7) (hP : va_P D vwCl ((h0, .inr (o, fs)) :: Wl) H) (hD : va_D A ((h0, .inr (o, fs)) :: Wl)) (hS : va_S A s.heap H locs) (hl0 : ls[0]? = some (.val (.ref h0)))
    (d1 : decode cc pc = .ok (.aload_n 0, 1)) (hpush : ∀ rest : List Value, W p l e R s m args below meth c H locs cells slots Q0 (F0 m (pc + 1 + ln) ls (.int (Int32.ofNat n) :: rest)) → W p l e R s m args below meth c H locs cells slots Q0 (F0 m (pc + 1) ls rest)) (d3 : decode cc (pc + 1 + ln) = .ok (.newarray (tZ z), 2)) (d4 : decode cc (pc + 1 + ln + 2) = .ok (.putfield idx, 3))
    (hn : n ≤ 3000) (hk : k < fN o) (hl : k < fs.length) (hlk : flT.lookup (o, idx) = some (o, k, 0)) (hty : fTy o k = .array (if z = true then .boolean else .int)) (hc : cells + 1 ≤ R.cells) (hs : slots + n ≤ R.slots)
    (kk : ∀ (q : Nat) (H1 : Heap) (locs1 : List Loc), va_P D vwCl ((h0, .inr (o, fs.set k (.ref q))) :: (Wl ++ [(q, .inl (if z = true then cZ else cI, n, .inl (fun _ => 0)))])) H1 → va_D A ((h0, .inr (o, fs.set k (.ref q))) :: (Wl ++ [(q, .inl (if z = true then cZ else cI, n, .inl (fun _ => 0)))])) → va_S A s.heap H1 locs1 → W p l e R s m args below meth c H1 locs1 (cells + 1) (slots + n) Q0 (F0 m (pc + 1 + ln + 2 + 3) ls [])) : W p l e R s m args below meth c H locs cells slots Q0 (F0 m pc ls []) := by
  obtain ⟨hx, hb, hml, hown, hts, hK, hin, hA, hnw, -, -⟩ := id hC
  have hb31 : n < 2 ^ 31 := by omega
  have hnn : ¬ Int32.ofNat n < 0 := nI_pos hb31
  have hcl : (Int32.ofNat n).toNatClampNeg = n := nI_clamp hb31
  refine lv_aload_n hx hb d1 rfl hl0 (hpush _ ?_)
  have hby : ∀ ty : FieldType, componentBytes ty ≤ 8 → n * componentBytes ty ≤ 536870912 := fun ty h => Nat.le_trans (Nat.mul_le_mul hn h) (by decide)
  cases z with
  | false =>
    have ha0 : (Jvm.Cond.arrayClass .int).before args s = true := hts (.arrayClass .int) (gw_in (by decide +kernel) rfl)
    have d3' : decode cc (pc + 1 + ln) = .ok (.newarray .int, 2) := d3
    refine va_newa (atype := .int) (a0 := (n, .inl (fun _ => 0))) hx hb ha0 (ty := .int) rfl hK hP hD hS hA (fun _ => rfl) hnn hcl (hby .int (by decide)) hc hs d3' (fun q cA H1 hK1 hP1 hD1 hS1 => ?_)
    have h1 : s.vm.findClass ("[" ++ FieldType.toString .int) = some cA := (hK1.2 2 (cA, .int) rfl).2
    have h2 : s.vm.findClass ("[" ++ FieldType.toString .int) = some cI := (hK1.2 0 (cI, .int) rfl).2
    have e1 : cA = cI := Option.some.inj (h1.symm.trans h2)
    subst e1
    have hP1' : va_P D vwCl ((h0, .inr (o, fs)) :: (Wl ++ [(q, .inl (cA, n, .inl (fun _ => 0)))])) H1 := hP1
    have hD1' : va_D A ((h0, .inr (o, fs)) :: (Wl ++ [(q, .inl (cA, n, .inl (fun _ => 0)))])) := hD1
    have hnr : narrow (fTy o k) (Value.ref q) = Value.ref q := by rw [hty]; rfl
    have hft : fits (fTy o k) (Value.ref q) = true := by rw [hty]; rfl
    refine K_put hC ho hP1' hD1' hS1 hk hl hlk hnr hft d4 (fun H2 locs2 hP2 hD2 hS2 => ?_)
    exact kk q H2 locs2 hP2 hD2 hS2
  | true =>
    have ha0 : (Jvm.Cond.arrayClass .boolean).before args s = true := hts (.arrayClass .boolean) (gw_in (by decide +kernel) rfl)
    have d3' : decode cc (pc + 1 + ln) = .ok (.newarray .boolean, 2) := d3
    refine va_newa (atype := .boolean) (a0 := (n, .inl (fun _ => 0))) hx hb ha0 (ty := .boolean) rfl hK hP hD hS hA (fun _ => rfl) hnn hcl (hby .boolean (by decide)) hc hs d3' (fun q cA H1 hK1 hP1 hD1 hS1 => ?_)
    have h1 : s.vm.findClass ("[" ++ FieldType.toString .boolean) = some cA := (hK1.2 2 (cA, .boolean) rfl).2
    have h2 : s.vm.findClass ("[" ++ FieldType.toString .boolean) = some cZ := (hK1.2 1 (cZ, .boolean) rfl).2
    have e1 : cA = cZ := Option.some.inj (h1.symm.trans h2)
    subst e1
    have hP1' : va_P D vwCl ((h0, .inr (o, fs)) :: (Wl ++ [(q, .inl (cA, n, .inl (fun _ => 0)))])) H1 := hP1
    have hD1' : va_D A ((h0, .inr (o, fs)) :: (Wl ++ [(q, .inl (cA, n, .inl (fun _ => 0)))])) := hD1
    have hnr : narrow (fTy o k) (Value.ref q) = Value.ref q := by rw [hty]; rfl
    have hft : fits (fTy o k) (Value.ref q) = true := by rw [hty]; rfl
    refine K_put hC ho hP1' hD1' hS1 hk hl hlk hnr hft d4 (fun H2 locs2 hP2 hD2 hS2 => ?_)
    exact kk q H2 locs2 hP2 hD2 hS2
/-- a new object into a field -/
theorem K_obj {pc i1 i2 k idx o' nL' nq d mc ms : Nat} {y' : MethodName} {b' : ByteArray} {fs0 : List Value} {post : Nat → List Nat → va_W} (hC : Kx D cI cZ o cc nL p R s m args meth c A) (ho : o < 7) (ho' : o' < 7) (hP : va_P D vwCl ((h0, .inr (o, fs)) :: Wl) H) (hD : va_D A ((h0, .inr (o, fs)) :: Wl)) (hS : va_S A s.heap H locs) (hl0 : ls[0]? = some (.val (.ref h0))) (hsz : ls.size = nL)
    (hM : CT l D cI cZ y' b' nL' o' fs0 post nq d mc ms) (hfs : ∀ j, j < fN o' → defaultValue (fTy o' j) = vp_V fs0 j) (hgood : GoodIn gw (wsj y' b' nL' none))
    (hcl : Jvm.Cond.classLink (cN o) i1 (cN o') ∈ gw) (hins : Jvm.Cond.instantiable (cN o') (fN o') ∈ gw) (hlnk : Jvm.Cond.methodLinkNest (cN o) i2 y' "NotesBelow" ∈ nw) (hyi : Jvm.Cond.instanceMethod y' ∈ gw) (hyc : y'.cls = cN o') (hyn : y'.name = "<init>") (hyd : (parseMethodDescriptor y'.desc).map (fun d => d.parameters.length) = some 0)
    (d1 : decode cc pc = .ok (.aload_n 0, 1)) (d2 : decode cc (pc + 1) = .ok (.new i1, 3)) (d3 : decode cc (pc + 4) = .ok (.dup, 1)) (d4 : decode cc (pc + 5) = .ok (.invokespecial i2, 3)) (d5 : decode cc (pc + 8) = .ok (.putfield idx, 3))
    (hk : k < fN o) (hl : k < fs.length) (hlk : flT.lookup (o, idx) = some (o, k, 0)) (hty : fTy o k = .object (cN o')) (hc : cells + 1 + mc ≤ R.cells) (hs : slots + fN o' + ms ≤ R.slots) (hR : d + 1 ≤ R.frames ∧ 8 + (nL' + 11) + 60 * d ≤ R.locals)
    (kk : ∀ (q : Nat) (qs : List Nat) (H1 : Heap) (locs1 : List Loc), qs.length = nq → va_P D vwCl ((h0, .inr (o, fs.set k (.ref q))) :: (Wl ++ post q qs)) H1 → va_D A ((h0, .inr (o, fs.set k (.ref q))) :: (Wl ++ post q qs)) → va_S A s.heap H1 locs1 → W p l e R s m args below meth c H1 locs1 (cells + 1 + mc) (slots + fN o' + ms) Q0 (F0 m (pc + 11) ls [])) : W p l e R s m args below meth c H locs cells slots Q0 (F0 m pc ls []) := by
  obtain ⟨hx, hb, hml, hown, hts, hK, hin, hA, hnw, -, -⟩ := id hC
  refine lv_aload_n hx hb d1 rfl hl0 ?_
  refine va_new (ci := o') (fs := fs0) (C := cN o') (T := fT o') (N := fN o') hx hb hts (uws_in _ ho') (fTy o') (fTy_ok o' ho') hown (hts _ hcl) (hts _ hins) (hts _ (gw_in (ini_ok _ ho') rfl)) hK hP hD hS hA (cl_ok _ ho') hfs (by omega) (by omega) d2 (fun q H1 hP1 hD1 hS1 => ?_)
  refine lv_dup hx hb d3 rfl ?_
  have hq : (((h0, .inr (o, fs)) :: Wl) ++ [(q, .inr (o', fs0))])[((h0, Sum.inr (o, fs)) :: Wl).length]? = some (q, Sum.inr (o', fs0)) := by simp
  have hPc : va_P D vwCl [(q, .inr (o', fs0))] H1 := by
    intro k y hy
    have hz : k < 1 := (List.getElem?_eq_some_iff.mp hy).1
    rw [show k = 0 by omega] at hy
    cases hy
    exact hP1 _ _ hq
  have hFc : ∀ a, va_A [(q, .inr (o', fs0))] H1.size a → A a := by
    rintro a (⟨j, x, hj⟩ | h)
    · have hz : j < 1 := (List.getElem?_eq_some_iff.mp hj).1
      rw [show j = 0 by omega] at hj
      cases hj
      exact hD1.2 _ _ hq
    · exact hA a (Nat.le_trans hS1.1 h)
  have hini : (Jvm.Cond.initialized y'.cls).before args s = true := by
    rw [hyc]
    exact hts _ (gw_in (ini_ok _ ho') rfl)
  have hmh := cN_ne _ ho'
  rw [← hyc] at hmh
  have hrun := va_runIN (As := []) (rest := [.ref q, .ref h0]) (cells := cells + 1) (slots := slots + fN o') (H := H1) (locs := locs) (g := F0 m (pc + 5) ls [.ref q, .ref q, .ref h0]) (below := below) (meth := meth) (e := e) (R := R) ⟨hx, hb, hml, hown, hts⟩ (hM q H1.size) ⟨va_cnB 0 hts hgood rfl rfl rfl (hnw _ hlnk) hini ⟨hmh.1, hmh.2, hyd⟩ hR, hyn, hts _ hyi⟩ ⟨blind_CT, fun U hU hW => ⟨rfl, by rw [hU], by rw [hU]; exact hPc, va_K.moved hW.alike hK, fun w hw => nest_warm hw hW (hnw w hw)⟩⟩ rfl rfl hsz rfl (lv_room (st := [.ref q, .ref h0]) (Nat.le_of_ble_eq_true rfl)) d4 ⟨hc, hs⟩
  intro T hT XX
  obtain ⟨v, st₀, t, T', L, e0, X', hL, e1, e2, ⟨⟨hv, qs, hqs, hP2, hD2⟩, hz, hkp⟩, st⟩ := hrun T hT XX
  cases hv
  rw [e0] at hz hkp
  obtain ⟨hP3, hD3⟩ := my_join hP1 hD1 rfl hkp hFc hP2 hD2
  have hS3 : va_S A s.heap t.heap (locs ++ L) := by
    refine ⟨Nat.le_trans hS1.1 hz, fun a h1 h2 => by rw [hkp a (Nat.lt_of_lt_of_le h1 hS1.1) (fun z => h2 (hFc a z))]; exact hS1.2.1 a h1 h2, fun a ha => ?_⟩
    rcases List.mem_append.mp ha with h | h
    · exact hS1.2.2 a h
    · exact hFc _ (hL a h)
  have fin := K_put (p := p) (l := l) (e := e) (R := R) (below := below) (locs := locs ++ L) (cells := cells + 1 + mc) (slots := slots + fN o' + ms) (Q0 := Q0) (ls := ls) (rest := []) (pc := pc + 8) (v := .ref q) hC ho hP3 hD3 hS3 hk hl hlk (by rw [hty]; rfl) (by rw [hty]; rfl) d5 (fun H4 locs4 hP4 hD4 hS4 => kk q qs H4 locs4 hqs hP4 hD4 hS4)
  obtain ⟨t2, a1, b1⟩ := fin T' e1 X'
  exact ⟨t2, st t2 a1, b1⟩
end KT
