/-! THE ABSTRACT STATE: what the calls have set, apart from how class and reference hold it -/
abbrev aT : Nat := 0
abbrev aTn : Nat := 1
abbrev aF : Nat := 2
abbrev aR : Nat := 3
abbrev aP : Nat := 4
abbrev aK : Nat := 5
abbrev aS : Nat := 6
abbrev aN : Nat := 7
abbrev aL : Nat := 8
abbrev aB : Nat := 9
abbrev aW : Nat := 10
abbrev aO : Nat := 11
abbrev aG : Nat := 12
abbrev aM : Nat := 13
abbrev aH : Nat := 14
abbrev aV : Nat := 15
def smN (A : Wd) : Nat → Int
  | 0 => 0
  | p + 1 => smN A p + A aS (p : Int)
/-- the first LINE of PARAGRAPH p -/
def sm (A : Wd) (p : Int) : Int := smN A p.toNat
/-- LINES -/
def aLn (A : Wd) : Int := sm A (A aP 0)
theorem sm_0 (A : Wd) : sm A 0 = 0 := rfl
theorem sm_s (A : Wd) {p : Int} (h : 0 ≤ p) : sm A (p + 1) = sm A p + A aS p := by
  obtain ⟨n, rfl⟩ := Int.eq_ofNat_of_zero_le h
  show smN A ((n : Int) + 1).toNat = smN A (n : Int).toNat + A aS (n : Int)
  rw [show ((n : Int) + 1).toNat = n + 1 by omega, show (n : Int).toNat = n by omega]
  rfl
def WFp (A : Wd) : Prop := 0 ≤ A aP 0 ∧ A aP 0 ≤ 16 ∧ (∀ p, 0 ≤ p → p < A aP 0 → (A aK p = 0 ∨ A aK p = 1) ∧ 1 ≤ A aS p ∧ A aS p ≤ 9) ∧ aLn A ≤ 50
theorem sm_mono {A : Wd} (hA : WFp A) : ∀ (n : Nat) {p : Int}, 0 ≤ p → p + n ≤ A aP 0 → sm A p + n ≤ sm A (p + n)
  | 0, p, h0, h1 => by simp
  | n + 1, p, h0, h1 => by
    have ih := sm_mono hA n h0 (by omega)
    have hs := sm_s A (p := p + n) (by omega)
    have := (hA.2.2.1 (p + n) (by omega) (by omega)).2.1
    rw [show p + ((n + 1 : Nat) : Int) = p + (n : Int) + 1 by omega, hs]
    omega
theorem sm_le {A : Wd} (hA : WFp A) {p q : Int} (h0 : 0 ≤ p) (h1 : p ≤ q) (h2 : q ≤ A aP 0) : sm A p + (q - p) ≤ sm A q := by
  have := sm_mono hA (q - p).toNat h0 (by omega)
  rw [show p + ((q - p).toNat : Int) = q by omega] at this
  omega
theorem sm_nn {A : Wd} (hA : WFp A) {p : Int} (h0 : 0 ≤ p) (h2 : p ≤ A aP 0) : p ≤ sm A p := by
  have := sm_le hA (Int.le_refl 0) h0 h2
  rw [sm_0] at this
  omega
theorem sm_in {A : Wd} (hA : WFp A) {p k : Int} (h0 : 0 ≤ p) (h1 : p < A aP 0) (h2 : k < A aS p) : sm A p + k < aLn A := by
  have h3 := sm_s A h0
  have h4 := sm_le hA (p := p + 1) (q := A aP 0) (by omega) (by omega) (Int.le_refl _)
  unfold aLn
  omega
/-! frames -/
def Fr (L : List Nat) (σ τ : Wd) : Prop := ∀ c, c ∉ L → τ c = σ c
theorem Fr_rfl {L : List Nat} {σ : Wd} : Fr L σ σ := fun _ _ => rfl
theorem Fr_tr {L : List Nat} {σ τ υ : Wd} (h1 : Fr L σ τ) (h2 : Fr L τ υ) : Fr L σ υ := fun c hc => (h2 c hc).trans (h1 c hc)
theorem wu_ne {σ : Wd} {c b : Nat} {i v : Int} (h : b ≠ c) : wu σ c i v b = σ b := by
  funext j
  simp [wu, h]
theorem wu_eq {σ : Wd} {c : Nat} {i v : Int} : wu σ c i v c i = v := by simp [wu]
theorem wu_ix {σ : Wd} {c : Nat} {i j v : Int} (h : j ≠ i) : wu σ c i v c j = σ c j := by simp [wu, h]
theorem wu_at {σ : Wd} {c : Nat} {i j v : Int} : wu σ c i v c j = if j = i then v else σ c j := by simp [wu]
theorem Fr_wu {L : List Nat} {σ τ : Wd} {c : Nat} {i v : Int} (h : Fr L σ τ) (hc : c ∈ L) : Fr L σ (wu τ c i v) := by
  intro b hb
  have hbc : b ≠ c := by
    intro q
    rw [q] at hb
    exact hb hc
  rw [wu_ne hbc]
  exact h b hb
theorem Fr_up {L M : List Nat} {σ τ : Wd} (h : Fr L σ τ) (hs : ∀ c ∈ L, c ∈ M) : Fr M σ τ := fun c hc => h c (fun q => hc (hs c q))
/-! the reference's small methods -/
theorem iR_b {x : Int} (h : x = 0 ∨ x = 1) : iR x := by unfold iR; omega
theorem cmp3_lt (x y : Int) : cmp3 x y < 0 ↔ x < y := by unfold cmp3; split <;> (try split) <;> omega
theorem cmp3_gt (x y : Int) : 0 < cmp3 x y ↔ y < x := by unfold cmp3; split <;> (try split) <;> omega
theorem cmp3_iR (x y : Int) : iR (cmp3 x y) := by unfold cmp3 iR; split <;> (try split) <;> omega
theorem m_in {X : En} (hX : XV X) {σ : Wd} {x a b : Int} {F : Int → Wd → Prop} (hx : lR x) (ha : lR a) (hb : lR b) (h1 : a ≤ x ∧ x ≤ b → F 1 σ) (h0 : ¬ (a ≤ x ∧ x ≤ b) → F 0 σ) : TI X k6_in [vl x, vl a, vl b] σ F := by
  refine e6_in hX ⟨hx, ha, cmp3_iR _ _, fun h => ⟨Or.inl rfl, h0 ?_⟩, fun h => ⟨hx, hb, cmp3_iR _ _, fun h' => ⟨Or.inl rfl, h0 ?_⟩, fun h' => ⟨Or.inr rfl, h1 ?_⟩⟩⟩
  · rw [cmp3_lt] at h; omega
  · rw [cmp3_gt] at h'; omega
  · rw [cmp3_lt] at h; rw [cmp3_gt] at h'; omega
theorem lR_i {x : Int} (h : iR x) : lR x := by unfold iR at h; unfold lR; omega
/-! LINES of the reference -/
def LinesM (σ A : Wd) : Prop := ∀ p k, 0 ≤ p → p < A aP 0 → 0 ≤ k → k < A aS p → σ md_paragraphOf (sm A p + k) = p ∧ σ md_placeOf (sm A p + k) = k
def flI_ (σ A : Wd) (p k : Int) : Prop := σ md_lines 0 = sm A p + k ∧ (∀ p' k', 0 ≤ p' → 0 ≤ k' → (p' < p ∧ k' < A aS p') ∨ (p' = p ∧ k' < k) → σ md_paragraphOf (sm A p' + k') = p' ∧ σ md_placeOf (sm A p' + k') = k')
abbrev flL : List Nat := [md_lines, md_paragraphOf, md_placeOf]
theorem fl_in {X : En} {A σ0 : Wd} (hA : WFp A) (hs : ∀ p, 0 ≤ p → p < A aP 0 → σ0 md_sizes p = A aS p) {F : Wd → Prop} {p : Int} (hp0 : 0 ≤ p) (hp : p < A aP 0) (kk : ∀ τ, Fr flL σ0 τ → flI_ τ A p (A aS p) → L6_findLines_7 X τ (p + 1) F) : ∀ (n : Nat) {k : Int} {σ : Wd}, 0 ≤ k → k + n = A aS p → Fr flL σ0 σ → flI_ σ A p k → L6_findLines_17 X σ p k F
  | 0, k, σ, h0, h1, hf, hi => by
    have hsz : σ md_sizes p = A aS p := by rw [hf md_sizes (by decide)]; exact hs p hp0 hp
    have hw := hA.2.2.1 p hp0 hp
    have hk : k = A aS p := by omega
    refine c6_findLines_17 ⟨⟨hp0, by have := hA.2.1; omega⟩, ⟨by omega, by omega⟩, ⟨by omega, by omega⟩, fun _ => kk σ hf (hk ▸ hi), fun h => absurd (by omega) h⟩
  | n + 1, k, σ, h0, h1, hf, hi => by
    have hsz : σ md_sizes p = A aS p := by rw [hf md_sizes (by decide)]; exact hs p hp0 hp
    have hw := hA.2.2.1 p hp0 hp
    have hlt : k < A aS p := by omega
    have hl0 := sm_nn hA hp0 (by omega)
    have hl1 := sm_in hA hp0 hp hlt
    have hl2 := hA.2.2.2
    obtain ⟨i1, i2⟩ := hi
    refine c6_findLines_17 ⟨⟨hp0, by have := hA.2.1; omega⟩, ⟨by omega, by omega⟩, ⟨by omega, by omega⟩, fun h => absurd h (by omega), fun _ => ⟨⟨by omega, by omega⟩, ?_⟩⟩
    intro τ1 e1
    have t1 : τ1 md_lines = σ md_lines := by rw [e1]; exact wu_ne (by decide)
    rw [t1]
    refine ⟨⟨by omega, by omega⟩, ?_⟩
    intro τ2 e2
    have t2 : τ2 md_lines = σ md_lines := by rw [e2, wu_ne (by decide)]; exact t1
    rw [t2]
    intro τ3 e3
    have f3 : Fr flL σ0 τ3 := by
      rw [e3, e2, e1]
      exact Fr_wu (Fr_wu (Fr_wu hf (by decide)) (by decide)) (by decide)
    have pP : ∀ j, τ3 md_paragraphOf j = if j = sm A p + k then p else σ md_paragraphOf j := by
      intro j
      rw [e3, wu_ne (by decide), e2, wu_ne (by decide), e1, wu_at, i1]
    have pL : ∀ j, τ3 md_placeOf j = if j = sm A p + k then k else σ md_placeOf j := by
      intro j
      rw [e3, wu_ne (by decide), e2, wu_at, i1, e1, wu_ne (by decide)]
    refine fl_in hA hs hp0 hp kk n (k := k + 1) (by omega) (by omega) f3 ⟨by rw [e3, wu_eq, i1]; omega, ?_⟩
    intro p' k' hp' hk' hc
    rw [pP, pL]
    by_cases he : sm A p' + k' = sm A p + k
    · rw [if_pos he, if_pos he]
      rcases hc with ⟨c1, c2⟩ | ⟨c1, c2⟩
      · exfalso
        have := sm_s A hp'
        have := sm_le hA (p := p' + 1) (q := p) (by omega) (by omega) (by omega)
        omega
      · subst c1
        exact ⟨rfl, by omega⟩
    · rw [if_neg he, if_neg he]
      refine i2 p' k' hp' hk' ?_
      rcases hc with hc | ⟨c1, c2⟩
      · exact Or.inl hc
      · subst c1
        exact Or.inr ⟨rfl, by omega⟩
theorem fl_out {X : En} {A σ0 : Wd} (hA : WFp A) (hP : σ0 md_paragraphs 0 = A aP 0) (hs : ∀ p, 0 ≤ p → p < A aP 0 → σ0 md_sizes p = A aS p) {F : Wd → Prop} (kk : ∀ τ, Fr flL σ0 τ → τ md_lines 0 = aLn A → LinesM τ A → F (wu τ md_isFound 0 0)) : ∀ (n : Nat) {p : Int} {σ : Wd}, 0 ≤ p → p + n = A aP 0 → Fr flL σ0 σ → flI_ σ A p 0 → L6_findLines_7 X σ p F
  | 0, p, σ, h0, h1, hf, hi => by
    have hpp : σ md_paragraphs 0 = A aP 0 := by rw [hf md_paragraphs (by decide)]; exact hP
    have hw := hA.2.1
    have hw0 := hA.1
    refine c6_findLines_7 ⟨⟨by omega, by omega⟩, ⟨by omega, by omega⟩, fun _ => ⟨Or.inl rfl, fun τ e => ?_⟩, fun h => absurd (by omega) h⟩
    rw [e]
    have hpe : p = A aP 0 := by omega
    subst hpe
    refine kk σ hf (by rw [hi.1]; unfold aLn; omega) (fun p' k' a b c d => hi.2 p' k' a c (Or.inl ⟨b, d⟩))
  | n + 1, p, σ, h0, h1, hf, hi => by
    have hpp : σ md_paragraphs 0 = A aP 0 := by rw [hf md_paragraphs (by decide)]; exact hP
    have hw := hA.2.1
    have hw0 := hA.1
    have hpl : p < A aP 0 := by omega
    have hw1 := hA.2.2.1 p h0 hpl
    refine c6_findLines_7 ⟨⟨by omega, by omega⟩, ⟨by omega, by omega⟩, fun h => absurd h (by omega), fun _ => ?_⟩
    refine fl_in hA hs h0 hpl (fun τ hft hit => ?_) (A aS p).toNat (k := 0) (by omega) (by omega) hf hi
    refine fl_out hA hP hs kk n (p := p + 1) (by omega) (by omega) hft ⟨by rw [hit.1, sm_s A h0]; omega, ?_⟩
    intro p' k' a b c
    refine hit.2 p' k' a b ?_
    rcases c with ⟨c1, c2⟩ | ⟨c1, c2⟩
    · rcases Int.lt_or_le p' p with q | q
      · exact Or.inl ⟨q, c2⟩
      · have : p' = p := by omega
        subst this
        exact Or.inr ⟨rfl, c2⟩
    · omega
/-- findLines(): LINES anew -/
theorem m_findLines {X : En} (hX : XV X) {A σ : Wd} (hA : WFp A) (hP : σ md_paragraphs 0 = A aP 0) (hs : ∀ p, 0 ≤ p → p < A aP 0 → σ md_sizes p = A aS p) {F : Wd → Prop} (kk : ∀ τ, Fr [md_lines, md_paragraphOf, md_placeOf, md_isFound] σ τ → τ md_lines 0 = aLn A → LinesM τ A → τ md_isFound 0 = 0 → F τ) : TV X k6_findLines [vr o_md] σ F := by
  refine e6_findLines hX fun τ e => ?_
  have hf : Fr flL σ τ := by rw [e]; exact Fr_wu Fr_rfl (by decide)
  refine fl_out hA hP hs (fun υ h1 h2 h3 => kk _ (Fr_wu (Fr_up h1 (by decide)) (by decide)) ?_ ?_ wu_eq) (A aP 0).toNat (p := 0) (by omega) (by have := hA.1; omega) hf ⟨by rw [e, wu_eq, sm_0]; rfl, ?_⟩
  · rw [wu_ne (by decide)]; exact h2
  · intro p k a b c d
    rw [wu_ne (by decide), wu_ne (by decide)]
    exact h3 p k a b c d
  · intro p' k' a b c
    omega
