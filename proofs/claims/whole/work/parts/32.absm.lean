/-! THE REFERENCE AND THE ABSTRACT STATE; paragraph() -/
theorem smN_congr {A B : Wd} : ∀ (n : Nat), (∀ q : Nat, q < n → B aS (q : Int) = A aS (q : Int)) → smN B n = smN A n
  | 0, _ => rfl
  | n + 1, h => by
    show smN B n + B aS (n : Int) = smN A n + A aS (n : Int)
    rw [smN_congr n (fun q hq => h q (by omega)), h n (by omega)]
theorem sm_congr {A B : Wd} {p : Int} (h : ∀ q, 0 ≤ q → q < p → B aS q = A aS q) : sm B p = sm A p := by
  unfold sm
  exact smN_congr _ (fun q hq => h q (by omega) (by omega))
def ParM (σ A : Wd) : Prop := σ md_paragraphs 0 = A aP 0 ∧ (∀ p, 0 ≤ p → p < A aP 0 → σ md_kinds p = A aK p ∧ σ md_sizes p = A aS p) ∧ σ md_lines 0 = aLn A ∧ LinesM σ A
def NotM (σ A : Wd) : Prop := σ md_notes 0 = A aN 0 ∧ ∀ n, 0 ≤ n → n < A aN 0 → NoteM σ A n
def FgsM (σ A : Wd) : Prop := σ md_figures 0 = A aM 0 ∧ ∀ f, 0 ≤ f → f < A aM 0 → FigM σ A f
/-- a PARAGRAPH more -/
def opPar (A : Wd) (kind size : Int) : Wd := wu (wu (wu A aK (A aP 0) kind) aS (A aP 0) size) aP 0 (A aP 0 + 1)
def ansPar (A : Wd) (kind size : Int) : Int := if ¬ ((0 ≤ kind ∧ kind ≤ 1) ∧ 1 ≤ size ∧ size ≤ 9) then -1002 else if A aP 0 = 16 ∨ 50 < aLn A + size then -1004 else A aP 0
theorem opPar_P (A : Wd) (kind size : Int) : opPar A kind size aP 0 = A aP 0 + 1 := wu_eq
theorem opPar_S (A : Wd) (kind size p : Int) : opPar A kind size aS p = if p = A aP 0 then size else A aS p := by
  unfold opPar
  rw [wu_ne (by decide), wu_at, wu_ne (by decide)]
theorem opPar_K (A : Wd) (kind size p : Int) : opPar A kind size aK p = if p = A aP 0 then kind else A aK p := by
  unfold opPar
  rw [wu_ne (by decide), wu_ne (by decide), wu_at]
theorem opPar_sm {A : Wd} {kind size p : Int} (h : p ≤ A aP 0) : sm (opPar A kind size) p = sm A p := sm_congr fun q h0 h1 => by
  rw [opPar_S, if_neg (by omega)]
theorem opPar_Ln {A : Wd} {kind size : Int} (h : 0 ≤ A aP 0) : aLn (opPar A kind size) = aLn A + size := by
  unfold aLn
  rw [opPar_P, sm_s _ h, opPar_sm (Int.le_refl _), opPar_S, if_pos rfl]
theorem opPar_WF {A : Wd} (hA : WFp A) {kind size : Int} (hk : 0 ≤ kind ∧ kind ≤ 1) (hs : 1 ≤ size ∧ size ≤ 9) (hP : ¬ A aP 0 = 16) (hL : aLn A + size ≤ 50) : WFp (opPar A kind size) := by
  obtain ⟨a, b, c, d⟩ := hA
  refine ⟨by rw [opPar_P]; omega, by rw [opPar_P]; omega, fun p h0 h1 => ?_, by rw [opPar_Ln a]; exact hL⟩
  rw [opPar_P] at h1
  rw [opPar_K, opPar_S]
  by_cases hp : p = A aP 0
  · rw [if_pos hp, if_pos hp]
    exact ⟨by omega, hs⟩
  · rw [if_neg hp, if_neg hp]
    exact c p h0 (by omega)
abbrev parL : List Nat := [md_kinds, md_sizes, md_paragraphs, md_lines, md_paragraphOf, md_placeOf, md_isFound]
/-- paragraph() of the reference: its answer, and what it leaves -/
theorem m_paragraph {X : En} (hX : XV X) {A σ : Wd} (hA : WFp A) (hM : ParM σ A) {kind size : Int} (hk : iR kind) (hs : iR size) {F : Int → Wd → Prop}
    (k0 : ansPar A kind size < 0 → F (ansPar A kind size) σ) (k1 : ∀ τ, 0 ≤ ansPar A kind size → WFp (opPar A kind size) → Fr parL σ τ → ParM τ (opPar A kind size) → τ md_isFound 0 = 0 → F (ansPar A kind size) τ) : TI X k6_paragraph [vr o_md, vi kind, vi size] σ F := by
  obtain ⟨m1, m2, m3, m4⟩ := hM
  obtain ⟨w1, w2, w3, w4⟩ := id hA
  have wl : 0 ≤ aLn A := by have := sm_nn hA w1 (Int.le_refl _); unfold aLn; omega
  have r1 : iR (1 : Int) := ⟨by decide, by decide⟩
  have i1 : lR (1 : Int) := ⟨by decide, by decide⟩
  have i9 : lR (9 : Int) := ⟨by decide, by decide⟩
  have b16 : iR (16 : Int) := ⟨by decide, by decide⟩
  have b50 : iR (50 : Int) := ⟨by decide, by decide⟩
  refine e6_paragraph hX ⟨hk, m_in hX (lR_i hk) (lR_i iR_0) i1 (fun c1 => ?_) (fun c1 => ?_)⟩
  · refine ⟨r1, fun h => absurd h (by decide), fun _ => ⟨hs, m_in hX (lR_i hs) i1 i9 (fun c2 => ?_) (fun c2 => ?_)⟩⟩
    · refine ⟨r1, fun _ => ⟨⟨by omega, by omega⟩, b16, fun q => ?_, fun q => ⟨⟨by omega, by omega⟩, b50, fun q2 => ?_, fun q2 => ?_⟩⟩, fun h => absurd (by decide) h⟩
      · have e : ansPar A kind size = -1004 := by unfold ansPar; rw [if_neg (fun z => z ⟨c1, c2⟩), if_pos (Or.inl (by omega))]
        rw [e] at k0
        exact k0 (by decide)
      · have hP : ¬ A aP 0 = 16 := by omega
        have hL : aLn A + size ≤ 50 := by omega
        have e : ansPar A kind size = A aP 0 := by unfold ansPar; rw [if_neg (fun z => z ⟨c1, c2⟩), if_neg (by omega)]
        have hW := opPar_WF hA c1 c2 hP hL
        refine ⟨⟨by omega, by omega⟩, fun τ3 e3 => ?_⟩
        have p3 : τ3 md_paragraphs = σ md_paragraphs := by rw [e3]; exact wu_ne (by decide)
        rw [p3]
        refine ⟨⟨by omega, by omega⟩, fun τ4 e4 => ?_⟩
        have p4 : τ4 md_paragraphs = σ md_paragraphs := by rw [e4, wu_ne (by decide)]; exact p3
        rw [p4]
        intro τ5 e5
        have f5 : Fr parL σ τ5 := by
          rw [e5, e4, e3]
          exact Fr_wu (Fr_wu (Fr_wu Fr_rfl (by decide)) (by decide)) (by decide)
        have s5 : ∀ p, τ5 md_sizes p = if p = A aP 0 then size else σ md_sizes p := by
          intro p
          rw [e5, wu_ne (by decide), e4, wu_at, m1, e3, wu_ne (by decide)]
        have k5 : ∀ p, τ5 md_kinds p = if p = A aP 0 then kind else σ md_kinds p := by
          intro p
          rw [e5, wu_ne (by decide), e4, wu_ne (by decide), e3, wu_at, m1]
        have q5 : τ5 md_paragraphs 0 = A aP 0 + 1 := by rw [e5, wu_eq, m1]
        have z5 : ∀ p, 0 ≤ p → p < opPar A kind size aP 0 → τ5 md_sizes p = opPar A kind size aS p := by
          intro p h0 h1
          rw [opPar_P] at h1
          rw [s5, opPar_S]
          by_cases hp : p = A aP 0
          · rw [if_pos hp, if_pos hp]
          · rw [if_neg hp, if_neg hp]
            exact (m2 p h0 (by omega)).2
        refine m_findLines hX hW (by rw [q5, opPar_P]) z5 (fun τ6 g1 g2 g3 g4 => ?_)
        have q6 : τ6 md_paragraphs 0 = A aP 0 + 1 := by rw [g1 md_paragraphs (by decide)]; exact q5
        have fin := k1 τ6 (by rw [e]; exact w1) hW (Fr_tr f5 (Fr_up g1 (by decide))) ⟨by rw [q6, opPar_P], fun p h0 h1 => ⟨?_, ?_⟩, g2, g3⟩ g4
        · rw [e] at fin
          rw [q6, show A aP 0 + 1 - 1 = A aP 0 by omega]
          exact fin
        · rw [g1 md_kinds (by decide), k5, opPar_K]
          rw [opPar_P] at h1
          by_cases hp : p = A aP 0
          · rw [if_pos hp, if_pos hp]
          · rw [if_neg hp, if_neg hp]
            exact (m2 p h0 (by omega)).1
        · rw [g1 md_sizes (by decide)]
          exact z5 p h0 h1
      · have e : ansPar A kind size = -1004 := by unfold ansPar; rw [if_neg (fun z => z ⟨c1, c2⟩), if_pos (Or.inr (by omega))]
        rw [e] at k0
        exact k0 (by decide)
    · have e : ansPar A kind size = -1002 := by unfold ansPar; rw [if_pos (fun z => c2 z.2)]
      rw [e] at k0
      exact ⟨iR_0, fun h => absurd rfl h, fun _ => k0 (by decide)⟩
  · have e : ansPar A kind size = -1002 := by unfold ansPar; rw [if_pos (fun z => c1 z.1)]
    rw [e] at k0
    exact ⟨iR_0, fun _ => k0 (by decide), fun h => absurd rfl h⟩
