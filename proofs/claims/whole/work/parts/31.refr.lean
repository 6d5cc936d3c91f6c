/-! THE REFERENCE: its readers of what is set -/
theorem m_isLine {X : En} (hX : XV X) {σ : Wd} {x : Int} {F : Int → Wd → Prop} (hx : iR x) (hl : 0 ≤ σ md_lines 0 ∧ σ md_lines 0 ≤ 50) (h1 : 0 ≤ x ∧ x < σ md_lines 0 → F 1 σ) (h0 : ¬ (0 ≤ x ∧ x < σ md_lines 0) → F 0 σ) : TI X k6_isLine [vr o_md, vi x] σ F := by
  refine e6_isLine hX ⟨hx, ⟨by omega, by omega⟩, m_in hX (lR_i hx) (lR_i iR_0) ⟨by omega, by omega⟩ (fun h => ⟨Or.inr rfl, h1 (by omega)⟩) (fun h => ⟨Or.inl rfl, h0 (by omega)⟩)⟩
theorem m_isNote {X : En} (hX : XV X) {σ : Wd} {x : Int} {F : Int → Wd → Prop} (hx : iR x) (hl : 0 ≤ σ md_notes 0 ∧ σ md_notes 0 ≤ 20) (h1 : 0 ≤ x ∧ x < σ md_notes 0 → F 1 σ) (h0 : ¬ (0 ≤ x ∧ x < σ md_notes 0) → F 0 σ) : TI X k6_isNote [vr o_md, vi x] σ F := by
  refine e6_isNote hX ⟨hx, ⟨by omega, by omega⟩, m_in hX (lR_i hx) (lR_i iR_0) ⟨by omega, by omega⟩ (fun h => ⟨Or.inr rfl, h1 (by omega)⟩) (fun h => ⟨Or.inl rfl, h0 (by omega)⟩)⟩
theorem lineOf_go {X : En} {A σ : Wd} (hA : WFp A) (hs : ∀ p, 0 ≤ p → p < A aP 0 → σ md_sizes p = A aS p) {F : Int → Wd → Prop} {p k : Int} (hp : p ≤ A aP 0) (kk : F (sm A p + k) σ) : ∀ (n : Nat) {q acc : Int}, 0 ≤ q → q + n = p → acc = sm A q + k → L6_lineOf_5 X σ p acc q F
  | 0, q, acc, h0, h1, h2 => by
    have hw := hA.2.1
    have hq : q = p := by omega
    subst hq
    refine c6_lineOf_5 ⟨⟨by omega, by omega⟩, ⟨by omega, by omega⟩, fun _ => ?_, fun h => absurd (Int.le_refl q) h⟩
    rw [h2]
    exact kk
  | n + 1, q, acc, h0, h1, h2 => by
    have hw := hA.2.1
    have hsq := hs q h0 (by omega)
    refine c6_lineOf_5 ⟨⟨by omega, by omega⟩, ⟨by omega, by omega⟩, fun h => absurd h (by omega), fun _ => ⟨⟨h0, by omega⟩, ?_⟩⟩
    refine lineOf_go hA hs hp kk n (q := q + 1) (by omega) (by omega) ?_
    rw [hsq, h2, sm_s A h0]
    omega
/-- lineOf(): the LINE of a place in a PARAGRAPH -/
theorem m_lineOf {X : En} (hX : XV X) {A σ : Wd} (hA : WFp A) (hs : ∀ p, 0 ≤ p → p < A aP 0 → σ md_sizes p = A aS p) {F : Int → Wd → Prop} {p k : Int} (h0 : 0 ≤ p) (hp : p ≤ A aP 0) (kk : F (sm A p + k) σ) : TI X k6_lineOf [vr o_md, vi p, vi k] σ F := by
  refine e6_lineOf hX (lineOf_go hA hs hp kk p.toNat (q := 0) (Int.le_refl 0) (by omega) ?_)
  rw [sm_0]
  omega
/-- a NOTE as the reference holds it -/
def NoteM (σ A : Wd) (n : Int) : Prop := (0 ≤ σ md_noteParagraph n ∧ σ md_noteParagraph n < A aP 0) ∧ (0 ≤ σ md_notePlace n ∧ σ md_notePlace n < A aS (σ md_noteParagraph n)) ∧ sm A (σ md_noteParagraph n) + σ md_notePlace n = A aL n ∧ σ md_bands n = A aB n ∧ σ md_noteRows n = A aW n ∧ σ md_refers n = A aO n ∧ σ md_isGrown n = A aG n
def FigM (σ A : Wd) (f : Int) : Prop := (0 ≤ σ md_figureParagraph f ∧ σ md_figureParagraph f < A aP 0) ∧ (0 ≤ σ md_figurePlace f ∧ σ md_figurePlace f < A aS (σ md_figureParagraph f)) ∧ sm A (σ md_figureParagraph f) + σ md_figurePlace f = A aH f ∧ σ md_figureRows f = A aV f
theorem m_noteLine {X : En} (hX : XV X) {A σ : Wd} (hA : WFp A) (hs : ∀ p, 0 ≤ p → p < A aP 0 → σ md_sizes p = A aS p) {F : Int → Wd → Prop} {n : Int} (h0 : 0 ≤ n) (h1 : n < 20) (hn : NoteM σ A n) (kk : F (A aL n) σ) : TI X k6_noteLine [vr o_md, vi n] σ F := by
  obtain ⟨⟨a1, a2⟩, -, a3, -⟩ := hn
  refine e6_noteLine hX ⟨⟨h0, h1⟩, ⟨h0, h1⟩, m_lineOf hX hA hs a1 (by omega) ?_⟩
  rw [a3]
  exact kk
theorem m_figureLine {X : En} (hX : XV X) {A σ : Wd} (hA : WFp A) (hs : ∀ p, 0 ≤ p → p < A aP 0 → σ md_sizes p = A aS p) {F : Int → Wd → Prop} {f : Int} (h0 : 0 ≤ f) (h1 : f < 4) (hf : FigM σ A f) (kk : F (A aH f) σ) : TI X k6_figureLine [vr o_md, vi f] σ F := by
  obtain ⟨⟨a1, a2⟩, -, a3, -⟩ := hf
  refine e6_figureLine hX ⟨⟨h0, h1⟩, ⟨h0, h1⟩, m_lineOf hX hA hs a1 (by omega) ?_⟩
  rw [a3]
  exact kk
theorem m_rowsOf {X : En} (hX : XV X) {A σ : Wd} {F : Int → Wd → Prop} {n : Int} (h0 : 0 ≤ n) (h1 : n < 20) (hn : NoteM σ A n) (hg : A aG n = 0 ∨ A aG n = 1) (kk : F (A aW n + A aG n) σ) : TI X k6_rowsOf [vr o_md, vi n] σ F := by
  obtain ⟨-, -, -, -, b1, -, b2⟩ := hn
  refine e6_rowsOf hX ⟨⟨h0, h1⟩, ⟨h0, h1⟩, ?_, fun h => ?_, fun h => ?_⟩
  · rw [b2]; exact iR_b hg
  · rw [b2] at h
    rw [h] at kk
    rw [b1]
    exact kk
  · rw [b2] at h
    have h' : A aG n = 1 := by omega
    rw [h'] at kk
    rw [b1]
    exact kk
