/-! THE REFERENCE: note, figure -/
theorem line_at {A : Wd} : ∀ (n : Nat) {l : Int}, 0 ≤ l → l < smN A n → (∀ q : Nat, q < n → 0 ≤ A aS (q : Int)) → ∃ (p : Nat) (k : Int), p < n ∧ 0 ≤ k ∧ k < A aS (p : Int) ∧ smN A p + k = l
  | 0, l, h0, h1, _ => by
    exfalso
    have : smN A 0 = 0 := rfl
    omega
  | n + 1, l, h0, h1, hs => by
    have h1' : l < smN A n + A aS (n : Int) := h1
    rcases Int.lt_or_le l (smN A n) with h | h
    · obtain ⟨p, k, a, b, c, d⟩ := line_at n h0 h (fun q hq => hs q (by omega))
      exact ⟨p, k, by omega, b, c, d⟩
    · exact ⟨n, l - smN A n, by omega, by omega, by omega, by omega⟩
theorem line_of {A : Wd} (hA : WFp A) {l : Int} (h0 : 0 ≤ l) (h1 : l < aLn A) : ∃ p k, 0 ≤ p ∧ p < A aP 0 ∧ 0 ≤ k ∧ k < A aS p ∧ sm A p + k = l := by
  obtain ⟨p, k, a, b, c, d⟩ := line_at (A := A) (A aP 0).toNat h0 h1 (fun q hq => by
    have := (hA.2.2.1 q (by omega) (by omega)).2.1
    omega)
  exact ⟨p, k, by omega, by omega, b, c, d⟩
theorem sm_same {A B : Wd} (h : B aS = A aS) (p : Int) : sm B p = sm A p := sm_congr fun q _ _ => by rw [h]
theorem aLn_same {A B : Wd} (h : B aS = A aS) (hP : B aP = A aP) : aLn B = aLn A := by
  unfold aLn
  rw [hP, sm_same h]
theorem WFp_same {A B : Wd} (hS : B aS = A aS) (hP : B aP = A aP) (hK : B aK = A aK) (h : WFp A) : WFp B := by
  unfold WFp at *
  rw [aLn_same hS hP, hS, hP, hK]
  exact h
def opNote (A : Wd) (l b r : Int) : Wd := wu (wu (wu (wu (wu (wu A aL (A aN 0) l) aB (A aN 0) b) aW (A aN 0) r) aO (A aN 0) (-1)) aG (A aN 0) 0) aN 0 (A aN 0 + 1)
theorem opNote_far (A : Wd) (l b r : Int) {c : Nat} (h : c ∉ [aL, aB, aW, aO, aG, aN]) : opNote A l b r c = A c := by
  simp only [List.mem_cons, List.not_mem_nil, or_false, not_or] at h
  obtain ⟨h1, h2, h3, h4, h5, h6⟩ := h
  unfold opNote
  rw [wu_ne h6, wu_ne h5, wu_ne h4, wu_ne h3, wu_ne h2, wu_ne h1]
theorem opNote_N (A : Wd) (l b r : Int) : opNote A l b r aN 0 = A aN 0 + 1 := wu_eq
theorem opNote_L (A : Wd) (l b r j : Int) : opNote A l b r aL j = if j = A aN 0 then l else A aL j := by
  unfold opNote
  rw [wu_ne (by decide), wu_ne (by decide), wu_ne (by decide), wu_ne (by decide), wu_ne (by decide), wu_at]
theorem opNote_B (A : Wd) (l b r j : Int) : opNote A l b r aB j = if j = A aN 0 then b else A aB j := by
  unfold opNote
  rw [wu_ne (by decide), wu_ne (by decide), wu_ne (by decide), wu_ne (by decide), wu_at, wu_ne (by decide)]
theorem opNote_W (A : Wd) (l b r j : Int) : opNote A l b r aW j = if j = A aN 0 then r else A aW j := by
  unfold opNote
  rw [wu_ne (by decide), wu_ne (by decide), wu_ne (by decide), wu_at, wu_ne (by decide), wu_ne (by decide)]
theorem opNote_O (A : Wd) (l b r j : Int) : opNote A l b r aO j = if j = A aN 0 then -1 else A aO j := by
  unfold opNote
  rw [wu_ne (by decide), wu_ne (by decide), wu_at, wu_ne (by decide), wu_ne (by decide), wu_ne (by decide)]
theorem opNote_G (A : Wd) (l b r j : Int) : opNote A l b r aG j = if j = A aN 0 then 0 else A aG j := by
  unfold opNote
  rw [wu_ne (by decide), wu_at, wu_ne (by decide), wu_ne (by decide), wu_ne (by decide), wu_ne (by decide)]
def ansNote (A : Wd) (l b r : Int) : Int := if ¬ (0 ≤ l ∧ l < aLn A) then -1001 else if ¬ ((0 ≤ b ∧ b ≤ 2) ∧ 1 ≤ r ∧ r ≤ 9) then -1002 else if A aN 0 = 20 then -1004 else A aN 0
abbrev noteL : List Nat := [md_noteParagraph, md_notePlace, md_bands, md_noteRows, md_refers, md_isGrown, md_notes, md_isFound]
/-- note() of the reference -/
theorem m_note {X : En} (hX : XV X) {A σ : Wd} (hA : WFp A) (hP : ParM σ A) (hN : NotM σ A) (hn20 : 0 ≤ A aN 0 ∧ A aN 0 ≤ 20) {l b r : Int} (rl : iR l) (rb : iR b) (rr : iR r) {F : Int → Wd → Prop}
    (k0 : ansNote A l b r < 0 → F (ansNote A l b r) σ) (k1 : 0 ≤ ansNote A l b r → ∀ τ, Fr noteL σ τ → NotM τ (opNote A l b r) → τ md_isFound 0 = 0 → F (ansNote A l b r) τ) : TI X k6_note [vr o_md, vi l, vi b, vi r] σ F := by
  have n1 := hN.1
  have l1 := hP.2.2.1
  have wl : 0 ≤ aLn A := by have := sm_nn hA hA.1 (Int.le_refl _); have := hA.1; unfold aLn; omega
  have w50 := hA.2.2.2
  have one := n_iR 1 (by decide)
  refine e6_note hX (m_isLine hX rl (by rw [l1]; exact ⟨wl, w50⟩) (fun c => ?_) (fun c => ?_))
  · rw [l1] at c
    refine ⟨one, fun _ => ⟨rb, m_in hX (lR_i rb) (lR_i iR_0) ⟨by decide, by decide⟩ (fun c2 => ?_) (fun c2 => ?_)⟩, fun h => absurd (by decide) h⟩
    · refine ⟨one, fun h => absurd h (by decide), fun _ => ⟨rr, m_in hX (lR_i rr) ⟨by decide, by decide⟩ ⟨by decide, by decide⟩ (fun c3 => ?_) (fun c3 => ?_)⟩⟩
      · refine ⟨one, fun _ => ⟨⟨by omega, by omega⟩, n_iR 20 (by decide), fun q => ?_, fun q => ?_⟩, fun h => absurd (by decide) h⟩
        · have hq : ¬ A aN 0 = 20 := by omega
          have e : ansNote A l b r = A aN 0 := by unfold ansNote; rw [if_neg (fun z => z c), if_neg (fun z => z ⟨c2, c3⟩), if_neg hq]
          obtain ⟨p, k, p0, p1, k0', k1', hpk⟩ := line_of hA c.1 c.2
          obtain ⟨lp, lk⟩ := hP.2.2.2 p k p0 p1 k0' k1'
          rw [hpk] at lp lk
          refine ⟨⟨c.1, by omega⟩, ⟨by omega, by omega⟩, fun τ4 e4 => ?_⟩
          have s4 : τ4 md_notes = σ md_notes := by rw [e4]; exact wu_ne (by decide)
          rw [s4]
          refine ⟨⟨c.1, by omega⟩, ⟨by omega, by omega⟩, fun τ5 e5 => ?_⟩
          have s5 : τ5 md_notes = σ md_notes := by rw [e5, wu_ne (by decide)]; exact s4
          rw [s5]
          refine ⟨⟨by omega, by omega⟩, fun τ6 e6 => ?_⟩
          have s6 : τ6 md_notes = σ md_notes := by rw [e6, wu_ne (by decide)]; exact s5
          rw [s6]
          refine ⟨⟨by omega, by omega⟩, fun τ7 e7 => ?_⟩
          have s7 : τ7 md_notes = σ md_notes := by rw [e7, wu_ne (by decide)]; exact s6
          rw [s7]
          refine ⟨⟨by omega, by omega⟩, fun τ8 e8 => ?_⟩
          have s8 : τ8 md_notes = σ md_notes := by rw [e8, wu_ne (by decide)]; exact s7
          rw [s8]
          refine ⟨⟨by omega, by omega⟩, Or.inl rfl, fun τ9 e9 => ?_⟩
          have s9 : τ9 md_notes = σ md_notes := by rw [e9, wu_ne (by decide)]; exact s8
          rw [s9]
          intro τ10 e10
          refine ⟨Or.inl rfl, fun τ11 e11 => ?_⟩
          have hfr : Fr noteL σ τ11 := by
            rw [e11, e10, e9, e8, e7, e6, e5, e4]
            exact Fr_wu (Fr_wu (Fr_wu (Fr_wu (Fr_wu (Fr_wu (Fr_wu (Fr_wu Fr_rfl (by decide)) (by decide)) (by decide)) (by decide)) (by decide)) (by decide)) (by decide)) (by decide)
          have hnn : τ11 md_notes 0 = A aN 0 + 1 := by rw [e11, wu_ne (by decide), e10, wu_eq, n1]
          have vP : ∀ j, τ11 md_noteParagraph j = if j = A aN 0 then p else σ md_noteParagraph j := by
            intro j
            rw [e11, wu_ne (by decide), e10, wu_ne (by decide), e9, wu_ne (by decide), e8, wu_ne (by decide), e7, wu_ne (by decide), e6, wu_ne (by decide), e5, wu_ne (by decide), e4, wu_at, n1, lp]
          have vK : ∀ j, τ11 md_notePlace j = if j = A aN 0 then k else σ md_notePlace j := by
            intro j
            rw [e11, wu_ne (by decide), e10, wu_ne (by decide), e9, wu_ne (by decide), e8, wu_ne (by decide), e7, wu_ne (by decide), e6, wu_ne (by decide), e5, wu_at, n1, e4, wu_ne (by decide), wu_ne (by decide), lk]
          have vB : ∀ j, τ11 md_bands j = if j = A aN 0 then b else σ md_bands j := by
            intro j
            rw [e11, wu_ne (by decide), e10, wu_ne (by decide), e9, wu_ne (by decide), e8, wu_ne (by decide), e7, wu_ne (by decide), e6, wu_at, n1, e5, wu_ne (by decide), e4, wu_ne (by decide)]
          have vW : ∀ j, τ11 md_noteRows j = if j = A aN 0 then r else σ md_noteRows j := by
            intro j
            rw [e11, wu_ne (by decide), e10, wu_ne (by decide), e9, wu_ne (by decide), e8, wu_ne (by decide), e7, wu_at, n1, e6, wu_ne (by decide), e5, wu_ne (by decide), e4, wu_ne (by decide)]
          have vO : ∀ j, τ11 md_refers j = if j = A aN 0 then -1 else σ md_refers j := by
            intro j
            rw [e11, wu_ne (by decide), e10, wu_ne (by decide), e9, wu_ne (by decide), e8, wu_at, n1, e7, wu_ne (by decide), e6, wu_ne (by decide), e5, wu_ne (by decide), e4, wu_ne (by decide)]
          have vG : ∀ j, τ11 md_isGrown j = if j = A aN 0 then 0 else σ md_isGrown j := by
            intro j
            rw [e11, wu_ne (by decide), e10, wu_ne (by decide), e9, wu_at, n1, e8, wu_ne (by decide), e7, wu_ne (by decide), e6, wu_ne (by decide), e5, wu_ne (by decide), e4, wu_ne (by decide)]
          have fin := k1 (by rw [e]; exact hn20.1) τ11 hfr ⟨by rw [hnn, opNote_N], fun n h0 h1 => ?_⟩ (by rw [e11]; exact wu_eq)
          · rw [e] at fin
            rw [hnn, show A aN 0 + 1 - 1 = A aN 0 by omega]
            exact fin
          · rw [opNote_N] at h1
            unfold NoteM
            rw [vP, vK, vB, vW, vO, vG, opNote_L, opNote_B, opNote_W, opNote_O, opNote_G, sm_same (opNote_far A l b r (by decide)), opNote_far A l b r (c := aP) (by decide), opNote_far A l b r (c := aS) (by decide)]
            by_cases hj : n = A aN 0
            · simp only [if_pos hj]
              exact ⟨⟨p0, p1⟩, ⟨k0', k1'⟩, hpk, by simp⟩
            · simp only [if_neg hj]
              exact hN.2 n h0 (by omega)
        · have hq : A aN 0 = 20 := by omega
          have e : ansNote A l b r = -1004 := by unfold ansNote; rw [if_neg (fun z => z c), if_neg (fun z => z ⟨c2, c3⟩), if_pos hq]
          rw [e] at k0
          exact k0 (by decide)
      · have e : ansNote A l b r = -1002 := by unfold ansNote; rw [if_neg (fun z => z c), if_pos (fun z => c3 z.2)]
        rw [e] at k0
        exact ⟨iR_0, fun h => absurd rfl h, fun _ => k0 (by decide)⟩
    · have e : ansNote A l b r = -1002 := by unfold ansNote; rw [if_neg (fun z => z c), if_pos (fun z => c2 z.1)]
      rw [e] at k0
      exact ⟨iR_0, fun _ => k0 (by decide), fun h => absurd rfl h⟩
  · rw [l1] at c
    have e : ansNote A l b r = -1001 := by unfold ansNote; rw [if_pos c]
    rw [e] at k0
    exact ⟨iR_0, fun h => absurd rfl h, fun _ => k0 (by decide)⟩
