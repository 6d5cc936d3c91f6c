/-! locals, the world's cells, numbers -/
def laF (X : En) : Nat → Lc → List (Nat × Value)
  | _, [] => []
  | i, none :: r => laF X (i + 1) r
  | i, some v :: r => (i, tv X v) :: laF X (i + 1) r
def la (X : En) (ls : Lc) : List (Nat × Value) := laF X 0 ls
theorem laF_mem {X : En} : ∀ (ls : Lc) (b i : Nat) (w : Value), (i, w) ∈ laF X b ls ↔ ∃ v, b ≤ i ∧ ld ls (i - b) = some v ∧ w = tv X v
  | [], b, i, w => by simp [laF, ld]
  | u :: r, b, i, w => by
    have ih := laF_mem (X := X) r (b + 1) i w
    cases u with
    | none =>
      show (i, w) ∈ laF X (b + 1) r ↔ _
      rw [ih]
      constructor
      · rintro ⟨v, h1, h2, h3⟩
        refine ⟨v, by omega, ?_, h3⟩
        rw [show i - b = (i - (b + 1)) + 1 by omega]
        exact h2
      · rintro ⟨v, h1, h2, h3⟩
        rcases Nat.lt_or_ge b i with hb | hb
        · refine ⟨v, hb, ?_, h3⟩
          rw [show i - b = (i - (b + 1)) + 1 by omega] at h2
          exact h2
        · rw [show i - b = 0 by omega] at h2
          cases h2
    | some x =>
      show (i, w) ∈ (b, tv X x) :: laF X (b + 1) r ↔ _
      rw [List.mem_cons, ih]
      constructor
      · rintro (h | ⟨v, h1, h2, h3⟩)
        · cases h
          exact ⟨x, Nat.le_refl _, by rw [Nat.sub_self]; rfl, rfl⟩
        · refine ⟨v, by omega, ?_, h3⟩
          rw [show i - b = (i - (b + 1)) + 1 by omega]
          exact h2
      · rintro ⟨v, h1, h2, h3⟩
        rcases Nat.lt_or_ge b i with hb | hb
        · refine Or.inr ⟨v, hb, ?_, h3⟩
          rw [show i - b = (i - (b + 1)) + 1 by omega] at h2
          exact h2
        · rw [show i - b = 0 by omega] at h2
          cases h2
          rw [h3, show i = b by omega]
          exact Or.inl rfl
theorem la_mem {X : En} {ls : Lc} {i : Nat} {w : Value} : (i, w) ∈ la X ls ↔ ∃ v, ld ls i = some v ∧ w = tv X v := by
  unfold la
  rw [laF_mem]
  simp
theorem la_get {X : En} {a : Array Slot} {n : Nat} {ls : Lc} (h : lv_has a n (la X ls)) {i : Nat} {v : MV} (hv : ld ls i = some v) : a[i]? = some (.val (tv X v)) := h.2.2 (i, tv X v) (la_mem.mpr ⟨v, hv, rfl⟩)
theorem la_of {X : En} {a : Array Slot} {n : Nat} {ls : Lc} {l : List (Nat × Value)} (h : lv_has a n l) (hi : ∀ i v, ld ls i = some v → (i, tv X v) ∈ l) : lv_has a n (la X ls) := by
  refine ⟨h.1, h.2.1, ?_⟩
  rintro ⟨i, w⟩ hq
  obtain ⟨v, h1, rfl⟩ := la_mem.mp hq
  exact h.2.2 (i, tv X v) (hi i v h1)
theorem ld_sto : ∀ (ls : Lc) (i j : Nat) (w : Option MV) (v : MV), ld (sto ls i w) j = some v → (j = i ∧ w = some v) ∨ (j ≠ i ∧ ld ls j = some v)
  | [], _, _, _, _, h => by cases h
  | u :: r, 0, 0, w, v, h => Or.inl ⟨rfl, h⟩
  | u :: r, 0, j + 1, w, v, h => Or.inr ⟨by omega, h⟩
  | u :: r, i + 1, 0, w, v, h => Or.inr ⟨by omega, h⟩
  | u :: r, i + 1, j + 1, w, v, h => by
    rcases ld_sto r i j w v h with ⟨h1, h2⟩ | ⟨h1, h2⟩
    · exact Or.inl ⟨by omega, h2⟩
    · exact Or.inr ⟨by omega, h2⟩
theorem ld_mask (live : List Nat) : ∀ (ls : Lc) (b j : Nat) (v : MV), ld (mask live b ls) j = some v → ld ls j = some v
  | [], _, _, _, h => by cases h
  | u :: r, b, 0, v, h => by
    have h' : (if live.contains b = true then u else none) = some v := h
    by_cases hc : live.contains b = true
    · rw [if_pos hc] at h'; exact h'
    · rw [if_neg hc] at h'; cases h'
  | u :: r, b, j + 1, v, h => ld_mask live r (b + 1) j v h
theorem cat_tv {X : En} (v : MV) : (tv X v).category = catV v := by
  rcases v with x | x | x <;> rfl
theorem csum_tv {X : En} : ∀ st : List MV, ((st.map (tv X)).map fun v => v.category).sum = csum st
  | [] => rfl
  | v :: r => by
    have := csum_tv (X := X) r
    simp only [List.map_cons, List.sum_cons, csum, cat_tv] at *
    omega
/-- a store of one word -/
theorem la_sto {X : En} {a : Array Slot} {n i : Nat} {ls : Lc} {w : MV} (hp : lp ls i = false) (h : lv_has a n ((i, tv X w) :: (la X ls).filter (fun q => !(q.1 == i) && !(q.1 + 1 == i && q.2.category == 2)))) : lv_has a n (la X (sto ls i (some w))) := by
  refine la_of h fun j v hj => ?_
  rcases ld_sto ls i j (some w) v hj with ⟨rfl, h2⟩ | ⟨h1, h2⟩
  · cases h2
    exact List.mem_cons_self
  · refine List.mem_cons_of_mem _ (List.mem_filter.mpr ⟨la_mem.mpr ⟨v, h2, rfl⟩, ?_⟩)
    have e1 : (j == i) = false := by simp [h1]
    have e2 : (j + 1 == i && (tv X v).category == 2) = false := by
      by_cases hji : j + 1 = i
      · subst hji
        have hl : isL (ld ls j) = false := hp
        rw [h2] at hl
        rcases v with x | x | x
        · simp [tv, Value.category]
        · cases hl
        · simp [tv, Value.category]
      · simp [hji]
    simp only [e1, e2]
    rfl
theorem la_sto2 {X : En} {a : Array Slot} {n i : Nat} {ls : Lc} {w : MV} (hp : lp ls i = false) (h : lv_has a n ((i, tv X w) :: (la X ls).filter (fun q => !(q.1 == i) && (!(q.1 == i + 1) && !(q.1 + 1 == i && q.2.category == 2))))) : lv_has a n (la X (sto (sto ls i (some w)) (i + 1) none)) := by
  refine la_of h fun j v hj => ?_
  rcases ld_sto _ (i + 1) j none v hj with ⟨_, h2⟩ | ⟨h0, h0'⟩
  · cases h2
  rcases ld_sto ls i j (some w) v h0' with ⟨rfl, h2⟩ | ⟨h1, h2⟩
  · cases h2
    exact List.mem_cons_self
  · refine List.mem_cons_of_mem _ (List.mem_filter.mpr ⟨la_mem.mpr ⟨v, h2, rfl⟩, ?_⟩)
    have e1 : (j == i) = false := by simp [h1]
    have e3 : (j == i + 1) = false := by simp [h0]
    have e2 : (j + 1 == i && (tv X v).category == 2) = false := by
      by_cases hji : j + 1 = i
      · subst hji
        have hl : isL (ld ls j) = false := hp
        rw [h2] at hl
        rcases v with x | x | x
        · simp [tv, Value.category]
        · cases hl
        · simp [tv, Value.category]
      · simp [hji]
    simp only [e1, e2, e3]
    rfl
/-! the world's cells -/
theorem wdF_get {X : En} {σ : Wd} : ∀ (l : List CDs) (b c : Nat), (wdF X σ b l)[c]? = (l[c]?).map (fun d => (xa X (b + c), cont X σ (b + c) d))
  | [], _, _ => by simp [wdF]
  | d :: r, b, 0 => by simp [wdF]
  | d :: r, b, c + 1 => by
    have := wdF_get (X := X) (σ := σ) r (b + 1) c
    simp only [wdF, List.getElem?_cons_succ, this]
    rw [show b + 1 + c = b + (c + 1) by omega]
theorem wd_get? {X : En} {σ : Wd} (c : Nat) : (wd X σ)[c]? = (ct[c]?).map (fun d => (xa X c, cont X σ c d)) := by
  unfold wd
  rw [wdF_get]
  simp
theorem wd_get {X : En} {σ : Wd} {c : Nat} {d : CDs} (h : ct[c]? = some d) : (wd X σ)[c]? = some (xa X c, cont X σ c d) := by
  rw [wd_get?, h]
  rfl
theorem ct_len : ct.length = 76 := by decide +kernel
def slN : CDs → Nat
  | .inl q => q.2.length
  | .inr _ => 1
theorem ct_sl : ∀ d ∈ ct, slN d ≤ 64 := by decide +kernel
theorem ct_lt {c : Nat} {d : CDs} (h : ct[c]? = some d) : c < 76 := by
  have := (List.getElem?_eq_some_iff.mp h).1
  rw [ct_len] at this
  exact this
theorem wd_D {X : En} (hX : XV X) (σ : Wd) : va_D (xA X) (wd X σ) := by
  have key : ∀ (i : Nat) (p : Nat × va_E), (wd X σ)[i]? = some p → i < 76 ∧ p.1 = xa X i := by
    intro i p h
    rw [wd_get?] at h
    cases hc : ct[i]? with
    | none => rw [hc] at h; cases h
    | some d =>
      rw [hc] at h
      cases h
      exact ⟨ct_lt hc, rfl⟩
  refine ⟨fun i j p q hi hj e => ?_, fun i p hi => ?_⟩
  · obtain ⟨a1, a2⟩ := key i p hi
    obtain ⟨b1, b2⟩ := key j q hj
    exact hX.1 i j a1 b1 (by rw [← a2, ← b2, e])
  · obtain ⟨a1, a2⟩ := key i p hi
    show xN X ≤ p.1
    rw [a2]
    exact hX.2.1 i a1
theorem slotsV_get {X : En} {σ : Wd} : ∀ (sl : List (Nat ⊕ Nat)) (b k : Nat), (slotsV X σ b sl)[k]? = (sl[k]?).map (fun d => slotV X σ (b + k) d)
  | [], _, _ => by simp [slotsV]
  | d :: r, b, 0 => by simp [slotsV]
  | d :: r, b, k + 1 => by
    have := slotsV_get (X := X) (σ := σ) r (b + 1) k
    simp only [slotsV, List.getElem?_cons_succ, this]
    rw [show b + 1 + k = b + (k + 1) by omega]
theorem slotV_ne {X : En} {σ : Wd} {a b : Nat} {x i : Int} (h : a ≠ b) (d : Nat ⊕ Nat) : slotV X (wu σ b i x) a d = slotV X σ a d := by
  rcases d with t | z
  · rfl
  · have e : wu σ b i x a 0 = σ a 0 := by simp [wu, h]
    unfold slotV
    split <;> first | rfl | simp_all
theorem slotsV_len {X : En} {σ : Wd} : ∀ (sl : List (Nat ⊕ Nat)) (b : Nat), (slotsV X σ b sl).length = sl.length
  | [], _ => rfl
  | d :: r, b => by simp [slotsV, slotsV_len r]
theorem cont_ne {X : En} {σ : Wd} {c j : Nat} {d : CDs} (h : ct[j]? = some d) (hj : j ≠ c) {τ : Wd} (hτ : ∀ a, (¬ ∃ k, k < 64 ∧ a = 64 * c + k) → τ a = σ a) : cont X τ j d = cont X σ j d := by
  have hsl := ct_sl d (List.mem_of_getElem? h)
  rcases d with ⟨ci, sl⟩ | ⟨z, n⟩
  · show (Sum.inr (ci, slotsV X τ (64 * j) sl) : va_E) = Sum.inr (ci, slotsV X σ (64 * j) sl)
    have : slotsV X τ (64 * j) sl = slotsV X σ (64 * j) sl := by
      apply List.ext_getElem?
      intro k
      rw [slotsV_get, slotsV_get]
      cases hk : sl[k]? with
      | none => rfl
      | some q =>
        have hkl : k < 64 := by
          have := (List.getElem?_eq_some_iff.mp hk).1
          have h2 : sl.length ≤ 64 := hsl
          omega
        have e : τ (64 * j + k) = σ (64 * j + k) := hτ _ (by rintro ⟨k', h1, h2⟩; omega)
        simp only [Option.map_some]
        congr 1
        rcases q with t | z
        · rfl
        · unfold slotV
          split <;> first | rfl | simp_all
    rw [this]
  · have e : τ (64 * j) = σ (64 * j) := hτ _ (by rintro ⟨k', h1, h2⟩; omega)
    simp only [cont, e]
theorem wd_set {X : En} {σ τ : Wd} {c : Nat} {d : CDs} (h : ct[c]? = some d) (hτ : ∀ a, (¬ ∃ k, k < 64 ∧ a = 64 * c + k) → τ a = σ a) : (wd X σ).set c (xa X c, cont X τ c d) = wd X τ := by
  apply List.ext_getElem?
  intro j
  have hl : c < (wd X σ).length := (List.getElem?_eq_some_iff.mp (wd_get (X := X) (σ := σ) h)).1
  by_cases hj : j = c
  · subst hj
    rw [List.getElem?_set_self hl, wd_get h]
  · rw [List.getElem?_set_ne (Ne.symm hj), wd_get?, wd_get?]
    cases hd : ct[j]? with
    | none => rfl
    | some e =>
      simp only [Option.map_some]
      rw [cont_ne hd hj hτ]
theorem wu_off {σ : Wd} {c k : Nat} {i x : Int} (hk : k < 64) : ∀ a, (¬ ∃ k, k < 64 ∧ a = 64 * c + k) → wu σ (64 * c + k) i x a = σ a := by
  intro a ha
  funext j
  unfold wu
  rw [if_neg]
  rintro ⟨h1, -⟩
  exact ha ⟨k, hk, h1⟩
/-! numbers -/
theorem i32_t {x : Int} (h : iR x) : (Int32.ofInt x).toInt = x := by
  apply Int32.toInt_ofInt_of_le
  · have := h.1; simpa using this
  · have := h.2; omega
theorem i64_t {x : Int} (h : lR x) : (Int64.ofInt x).toInt = x := by
  apply Int64.toInt_ofInt_of_le
  · have := h.1; simpa using this
  · have := h.2; omega
theorem i32_lt {x y : Int} (hx : iR x) (hy : iR y) : Int32.ofInt x < Int32.ofInt y ↔ x < y := by
  rw [Int32.lt_iff_toInt_lt, i32_t hx, i32_t hy]
theorem i32_le {x y : Int} (hx : iR x) (hy : iR y) : Int32.ofInt x ≤ Int32.ofInt y ↔ x ≤ y := by
  rw [Int32.le_iff_toInt_le, i32_t hx, i32_t hy]
theorem i32_eq {x y : Int} (hx : iR x) (hy : iR y) : Int32.ofInt x = Int32.ofInt y ↔ x = y := by
  rw [← Int32.toInt_inj, i32_t hx, i32_t hy]
theorem iR_0 : iR 0 := by unfold iR; omega
theorem i32_clamp {i : Int} {n : Nat} (h0 : 0 ≤ i) (hn : i < (n : Int)) (hb : n < 2 ^ 31) : (Int32.ofInt i).toNatClampNeg = i.toNat := by
  have hr : iR i := ⟨by omega, by omega⟩
  show (Int32.ofInt i).toInt.toNat = i.toNat
  rw [i32_t hr]
theorem i32_in {i : Int} {n : Nat} (h0 : 0 ≤ i) (hn : i < (n : Int)) (hb : n < 2 ^ 31) : vp_in (Int32.ofInt i) n := by
  have hr : iR i := ⟨by omega, by omega⟩
  rw [vp_in_iff, i32_t hr]
  exact ⟨h0, hn⟩
