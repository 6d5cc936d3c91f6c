/-! RUNS AND CONTRACTS IN THE SMALL MACHINE -/
/-- method k, at this place with these locals, this stack, this world, comes to its end, and what it answers and leaves has Q -/
def Go (X : En) (k pc : Nat) (ls : Lc) (st : List MV) (σ : Wd) (Q : Option MV → Wd → Prop) : Prop :=
  ∀ (p : Program) (e : Env) (s : State) (m : MethodId) (args : Array Value) (below : List Frame) (meth : Method) (c : Code), Cx X k p (rmk (mD k)) s m args c → meth.sig.returnType = mR k → meth.locks = false →
    WW X k p e (rmk (mD k)) s m args below meth c 0 0 (MQ below (QcT X Q) args s 0 0 (xA X)) pc ls st σ
theorem WW_mask {X : En} {k : Nat} {p : Program} {e : Env} {R : Room} {s : State} {m : MethodId} {args : Array Value} {below : List Frame} {meth : Method} {c : Code} {cells slots : Nat} {Q0 : State → Prop} {pc : Nat} {ls : Lc} {st : List MV} {σ : Wd} (live : List Nat) (h : WW X k p e R s m args below meth c cells slots Q0 pc (mask live 0 ls) st σ) : WW X k p e R s m args below meth c cells slots Q0 pc ls st σ := by
  intro H locs a hS hP hL
  exact h H locs a hS hP (la_of hL fun i v hi => la_mem.mpr ⟨v, ld_mask live ls 0 i v hi, rfl⟩)
theorem ww_ret {X : En} {k : Nat} {p : Program} {e : Env} {R : Room} {s : State} {m : MethodId} {args : Array Value} {below : List Frame} {meth : Method} {c : Code} {Q : Option MV → Wd → Prop} {r : Option MV} {σ : Wd} {pc : Nat} {ls : Lc} (hx : p.tables.exec = Jvm.exec) (hb : c.code = mC k) (hr : meth.sig.returnType = mR k) (hlocks : meth.locks = false) (hq : Q r σ) (hrt : RT (mR k) r) (hd : decode (mC k) pc = .ok (retI r, 1)) :
    WW X k p e R s m args below meth c 0 0 (MQ below (QcT X Q) args s 0 0 (xA X)) pc ls r.toList σ := by
  intro H locs a hS hP hL
  have fin : ∀ t : State, t.heap = H → s.WarmedH t.vm → QcT X Q args s (.returned (r.map (tv X))) t := fun t ht _ => ⟨⟨r, σ, rfl, hq, by rw [ht]; exact hP⟩, hS.F ht⟩
  rcases r with _ | x | x | x
  · have hr' : mR k = none := by
      cases h : mR k with
      | none => rfl
      | some ty => rw [h] at hrt; cases ty <;> exact hrt.elim
    exact W.vret hx hb (hr.trans hr') fin hS.2.2 hd hlocks
  · cases h : mR k with
    | none => rw [h] at hrt; exact hrt.elim
    | some ty =>
      rw [h] at hrt
      cases ty with
      | int => exact W.zret hx hb (hr.trans h) rfl fin hS.2.2 hd hlocks
      | boolean =>
        have h01 : x = 0 ∨ x = 1 := hrt
        exact W.zret hx hb (hr.trans h) (by rcases h01 with rfl | rfl <;> rfl) fin hS.2.2 hd hlocks
      | _ => exact hrt.elim
  · cases h : mR k with
    | none => rw [h] at hrt; exact hrt.elim
    | some ty =>
      rw [h] at hrt
      cases ty with
      | long => exact W.lret hx hb (hr.trans h) fin hS.2.2 hd hlocks
      | _ => exact hrt.elim
  · cases h : mR k with
    | none => rw [h] at hrt; exact hrt.elim
    | some ty => rw [h] at hrt; cases ty <;> exact hrt.elim
theorem wps_ww {X : En} {k : Nat} {p : Program} {e : Env} {R : Room} {s : State} {m : MethodId} {args : Array Value} {below : List Frame} {meth : Method} {c : Code} {cells slots : Nat} {Q0 : State → Prop} {J : Nat → Lc → List MV → Wd → Prop} {Q : Option MV → Wd → Prop} (hC : Cx X k p R s m args c) (hcs : cells ≤ R.cells ∧ slots ≤ R.slots)
    (hJ : ∀ pc ls st σ, J pc ls st σ → WW X k p e R s m args below meth c cells slots Q0 pc ls st σ)
    (kq : ∀ r σ pc ls, Q r σ → RT (mR k) r → decode (mC k) pc = .ok (retI r, 1) → WW X k p e R s m args below meth c cells slots Q0 pc ls r.toList σ) : ∀ (n pc : Nat) (ls : Lc) (st : List MV) (σ : Wd), wps X k J Q n pc ls st σ → WW X k p e R s m args below meth c cells slots Q0 pc ls st σ
  | 0, _, _, _, _, h => h.elim
  | n + 1, pc, ls, st, σ, h => by
    obtain ⟨ins, hl, h⟩ := cOp_inv h
    obtain ⟨hd, hok⟩ := dec_ok k _ (lookup_mem _ hl)
    refine stp_sound hC hcs hd hok h (fun pc' ls' st' σ' hc => ?_) (fun r σ' ls' hq hrt hdr => kq r σ' pc ls' hq hrt hdr)
    split at hc
    next live _ => exact WW_mask live (hJ _ _ _ _ hc)
    next => exact wps_ww hC hcs hJ kq n pc' ls' st' σ' hc
theorem go_w {X : En} {k : Nat} {Q : Option MV → Wd → Prop} (n : Nat) {pc : Nat} {ls : Lc} {st : List MV} {σ : Wd} (h : wps X k (fun pc ls st σ => Go X k pc ls st σ Q) Q n pc ls st σ) : Go X k pc ls st σ Q := by
  intro p e s m args below meth c hC hr hl
  exact wps_ww hC ⟨Nat.zero_le _, Nat.zero_le _⟩ (fun pc ls st σ hg => hg p e s m args below meth c hC hr hl) (fun r σ pc ls hq hrt hd => ww_ret hC.2.1 hC.2.2.1 hr hl hq hrt hd) n pc ls st σ h
theorem lg_len {X : En} : ∀ as : List MV, (lg_sl (as.map (tv X))).length = (entA as).length
  | [] => rfl
  | .inl x :: r => by
    have := lg_len (X := X) r
    simp only [lg_sl, List.map_cons, List.flatMap_cons, List.length_append, entA, List.length_cons] at *
    rw [show (if (tv X (.inl x)).category = 2 then [Slot.val (tv X (.inl x)), Slot.second] else [Slot.val (tv X (.inl x))]).length = 1 from rfl]
    omega
  | .inr (.inl x) :: r => by
    have := lg_len (X := X) r
    simp only [lg_sl, List.map_cons, List.flatMap_cons, List.length_append, entA, List.length_cons] at *
    rw [show (if (tv X (.inr (.inl x))).category = 2 then [Slot.val (tv X (.inr (.inl x))), Slot.second] else [Slot.val (tv X (.inr (.inl x)))]).length = 2 from rfl]
    omega
  | .inr (.inr x) :: r => by
    have := lg_len (X := X) r
    simp only [lg_sl, List.map_cons, List.flatMap_cons, List.length_append, entA, List.length_cons] at *
    rw [show (if (tv X (.inr (.inr x))).category = 2 then [Slot.val (tv X (.inr (.inr x))), Slot.second] else [Slot.val (tv X (.inr (.inr x)))]).length = 1 from rfl]
    omega
theorem ent_args {X : En} : ∀ (as : List MV) (b n i : Nat) (v : MV), ld (entA as ++ List.replicate n none) i = some v → (b + i, tv X v) ∈ lv_args b (as.map (tv X))
  | [], b, n, i, v, h => by
    exfalso
    have : ∀ (n i : Nat), ld (List.replicate n none) i = none := by
      intro n
      induction n with
      | zero => intro i; rfl
      | succ n ih => intro i; cases i with
        | zero => rfl
        | succ i => exact ih i
    rw [entA, List.nil_append, this] at h
    cases h
  | .inl x :: r, b, n, 0, v, h => by
    cases h
    exact List.mem_cons_self
  | .inl x :: r, b, n, i + 1, v, h => by
    have := ent_args (X := X) r (b + 1) n i v h
    rw [show b + 1 + i = b + (i + 1) by omega] at this
    exact List.mem_cons_of_mem _ this
  | .inr (.inl x) :: r, b, n, 0, v, h => by
    cases h
    exact List.mem_cons_self
  | .inr (.inl x) :: r, b, n, 1, v, h => by cases h
  | .inr (.inl x) :: r, b, n, i + 2, v, h => by
    have := ent_args (X := X) r (b + 2) n i v h
    rw [show b + 2 + i = b + (i + 2) by omega] at this
    exact List.mem_cons_of_mem _ this
  | .inr (.inr x) :: r, b, n, 0, v, h => by
    cases h
    exact List.mem_cons_self
  | .inr (.inr x) :: r, b, n, i + 1, v, h => by
    have := ent_args (X := X) r (b + 1) n i v h
    rw [show b + 1 + i = b + (i + 1) by omega] at this
    exact List.mem_cons_of_mem _ this
/-- a contract out of a run from the entry -/
theorem tr_go {X : En} (hX : XV X) {k : Nat} (hk : k < 141) {as : List MV} (hlen : (entA as).length ≤ mL k) {σ : Wd} {Q : Option MV → Wd → Prop} (h : Go X k 0 (ent (mL k) as) [] σ Q) : Tr X k as σ Q := by
  obtain ⟨hcls, hmL, hmO, hpl⟩ := me_ok k hk
  refine Met.ofW (cc := mC k) (maxL := mL k) (ret := mR k) hpl rfl ?_
  intro p e s m args below meth c s₁ B hml hv
  obtain ⟨rfl, hsz, hEv, hP⟩ := hv
  have hts := atoms_spec (ws := wsk k) B.pre
  have hown : s.vm.findClass (cN (mO k)) = some m.cls := by
    rw [← hcls]
    exact findClass_of_methodNamed B.named
  have hC : Cx X k p (rmk (mD k)) s m (as.map (tv X)).toArray c := ⟨hX, B.exec, B.bytes, hml, hown, fun w hw => hts w (List.mem_cons_of_mem _ hw), hsz, hEv, Nat.le_refl _, Nat.le_refl _⟩
  have hl := lv_entry (as.map (tv X)) (n := mL k) (by rw [lg_len]; exact hlen)
  rw [lg_entry_eq]
  refine h p e s m _ below meth c hC B.returns B.notSynchronized s.heap [] _ va_S.rf hP (la_of hl fun i v hi => ?_)
  have := ent_args (X := X) as 0 _ i v hi
  rwa [Nat.zero_add] at this
theorem tr_w {X : En} (hX : XV X) {k : Nat} (n : Nat) (hk : Nat.blt k 141 = true) {as : List MV} {σ : Wd} {Q : Option MV → Wd → Prop} (hlen : Nat.ble (entA as).length (mL k) = true) (h : wps X k (fun pc ls st σ => Go X k pc ls st σ Q) Q n 0 (ent (mL k) as) [] σ) : Tr X k as σ Q :=
  tr_go hX (by simpa [Nat.blt_eq] using hk) (by simpa [Nat.ble_eq] using hlen) (go_w n h)
theorem QcT_mono {X : En} {Q Q' : Option MV → Wd → Prop} (h : ∀ r σ, Q r σ → Q' r σ) {a : Array Value} {st t : State} {o : Outcome} (hq : QcT X Q a st o t) : QcT X Q' a st o t := by
  obtain ⟨⟨r, σ, h1, h2, h3⟩, h4⟩ := hq
  exact ⟨⟨r, σ, h1, h r σ h2, h3⟩, h4⟩
theorem Tr_mono {X : En} {k : Nat} {as : List MV} {σ : Wd} {Q Q' : Option MV → Wd → Prop} (hT : Tr X k as σ Q) (h : ∀ r σ', Q r σ' → Q' r σ') : Tr X k as σ Q' := by
  intro p e h1 h2 h3 s m args below h4 h5 h6 h7
  obtain ⟨n, o, a1, a2, a3, a4, a5⟩ := hT p e h1 h2 h3 s m args below h4 h5 h6 h7
  exact ⟨n, o, a1, a2, a3, QcT_mono h a4, a5⟩
abbrev TI (X : En) (k : Nat) (as : List MV) (σ : Wd) (F : Int → Wd → Prop) : Prop := Tr X k as σ (QI F)
abbrev TL (X : En) (k : Nat) (as : List MV) (σ : Wd) (F : Int → Wd → Prop) : Prop := Tr X k as σ (QL F)
abbrev TV (X : En) (k : Nat) (as : List MV) (σ : Wd) (F : Wd → Prop) : Prop := Tr X k as σ (QV F)
theorem TI_mono {X : En} {k : Nat} {as : List MV} {σ : Wd} {F G : Int → Wd → Prop} (hT : TI X k as σ F) (h : ∀ x σ', F x σ' → G x σ') : TI X k as σ G := by
  refine Tr_mono hT fun r σ' hq => ?_
  unfold QI at hq ⊢
  split at hq
  · exact h _ _ hq
  · exact hq.elim
theorem TL_mono {X : En} {k : Nat} {as : List MV} {σ : Wd} {F G : Int → Wd → Prop} (hT : TL X k as σ F) (h : ∀ x σ', F x σ' → G x σ') : TL X k as σ G := by
  refine Tr_mono hT fun r σ' hq => ?_
  unfold QL at hq ⊢
  split at hq
  · exact h _ _ hq
  · exact hq.elim
theorem TV_mono {X : En} {k : Nat} {as : List MV} {σ : Wd} {F G : Wd → Prop} (hT : TV X k as σ F) (h : ∀ σ', F σ' → G σ') : TV X k as σ G := by
  refine Tr_mono hT fun r σ' hq => ?_
  unfold QV at hq ⊢
  split at hq
  · exact h _ hq
  · exact hq.elim
