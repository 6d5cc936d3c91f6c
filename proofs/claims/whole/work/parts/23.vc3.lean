set_option maxRecDepth 10000 in
theorem e3_put {X : En} (hX : XV X) {σ : Wd} {x1 x2 x3 : Int} {F : Wd → Prop} (h :
    iR ((x1 * 10) + x2) ∧
    (((x1 * 10) + x2) < 0 → F σ) ∧
    (¬ (((x1 * 10) + x2) < 0) → iR ((x1 * 10) + x2) ∧ iR 500 ∧
      (500 ≤ ((x1 * 10) + x2) → F σ) ∧
      (¬ (500 ≤ ((x1 * 10) + x2)) → (0 ≤ ((x1 * 10) + x2) ∧ ((x1 * 10) + x2) < 500) ∧ ∀ τ1, τ1 = wu σ pt_facts ((x1 * 10) + x2) x3 →
        F τ1))) : TV X k3_put [vr o_pt, vi x1, vi x2, vi x3] σ F := tr_w hX 20 rfl rfl h
set_option maxRecDepth 10000 in
theorem e3_fact {X : En} (hX : XV X) {σ : Wd} {x1 x2 : Int} {F : Int → Wd → Prop} (h :
    iR ((x1 * 10) + x2) ∧
    (((x1 * 10) + x2) < 0 → F (-1) σ) ∧
    (¬ (((x1 * 10) + x2) < 0) → iR ((x1 * 10) + x2) ∧ iR 500 ∧
      (500 ≤ ((x1 * 10) + x2) → F (-1) σ) ∧
      (¬ (500 ≤ ((x1 * 10) + x2)) → (0 ≤ ((x1 * 10) + x2) ∧ ((x1 * 10) + x2) < 500) ∧ F (σ pt_facts ((x1 * 10) + x2)) σ))) : TI X k3_fact [vr o_pt, vi x1, vi x2] σ F := tr_w hX 20 rfl rfl h
abbrev L3_pageOfLine_2 (X : En) (σ : Wd) (x1 x2 : Int) (F : Int → Wd → Prop) : Prop := Go X k3_pageOfLine 2 [some (vr o_pt), some (vi x1), some (vi x2)] [] σ (QI F)
set_option maxRecDepth 10000 in
theorem e3_pageOfLine {X : En} (hX : XV X) {σ : Wd} {x1 : Int} {F : Int → Wd → Prop} (h :
    L3_pageOfLine_2 X σ x1 0 F) : TI X k3_pageOfLine [vr o_pt, vi x1] σ F := tr_w hX 4 rfl rfl h
set_option maxRecDepth 10000 in
theorem c3_pageOfLine_2 {X : En} {σ : Wd} {x1 x2 : Int} {F : Int → Wd → Prop} (h :
    iR x2 ∧ iR (σ pt_pages 0) ∧
    ((σ pt_pages 0) ≤ x2 → F (-1) σ) ∧
    (¬ ((σ pt_pages 0) ≤ x2) → TI X k3_fact [vr o_pt, vi x2, vi 0] σ (fun r1 τ1 =>
      TI X k3_fact [vr o_pt, vi x2, vi 1] τ1 (fun r2 τ2 =>
      iR x1 ∧ iR (r1 + r2) ∧
      ((r1 + r2) ≤ x1 → L3_pageOfLine_2 X τ2 x1 (x2 + 1) F) ∧
      (¬ ((r1 + r2) ≤ x1) → F x2 τ2))))) : L3_pageOfLine_2 X σ x1 x2 F := go_w 19 h
abbrev L3_pageOfFigure_4 (X : En) (σ : Wd) (x1 x2 x3 : Int) (F : Int → Wd → Prop) : Prop := Go X k3_pageOfFigure 4 [some (vr o_pt), some (vi x1), some (vi x2), some (vi x3)] [] σ (QI F)
set_option maxRecDepth 10000 in
theorem e3_pageOfFigure {X : En} (hX : XV X) {σ : Wd} {x1 : Int} {F : Int → Wd → Prop} (h :
    L3_pageOfFigure_4 X σ x1 0 0 F) : TI X k3_pageOfFigure [vr o_pt, vi x1] σ F := tr_w hX 6 rfl rfl h
set_option maxRecDepth 10000 in
theorem c3_pageOfFigure_4 {X : En} {σ : Wd} {x1 x2 x3 : Int} {F : Int → Wd → Prop} (h :
    iR x3 ∧ iR (σ pt_pages 0) ∧
    ((σ pt_pages 0) ≤ x3 → F (-1) σ) ∧
    (¬ ((σ pt_pages 0) ≤ x3) → TI X k3_fact [vr o_pt, vi x3, vi 2] σ (fun r1 τ1 =>
      iR x1 ∧ iR (x2 + r1) ∧
      ((x2 + r1) ≤ x1 → L3_pageOfFigure_4 X τ1 x1 (x2 + r1) (x3 + 1) F) ∧
      (¬ ((x2 + r1) ≤ x1) → F x3 τ1)))) : L3_pageOfFigure_4 X σ x1 x2 x3 F := go_w 18 h
