set_option maxRecDepth 10000 in
theorem e1_hasParagraph_mt {X : En} (hX : XV X) {σ : Wd} {x1 : Int} {F : Int → Wd → Prop} (h :
    iR x1 ∧
    (x1 < 0 → ((0 : Int) = 0 ∨ (0 : Int) = 1) ∧ F 0 σ) ∧
    (¬ (x1 < 0) → iR x1 ∧ iR (σ mt_paragraphs 0) ∧
      ((σ mt_paragraphs 0) ≤ x1 → ((0 : Int) = 0 ∨ (0 : Int) = 1) ∧ F 0 σ) ∧
      (¬ ((σ mt_paragraphs 0) ≤ x1) → ((1 : Int) = 0 ∨ (1 : Int) = 1) ∧ F 1 σ))) : TI X k1_hasParagraph [vr o_mt, vi x1] σ F := tr_w hX 10 rfl rfl h
set_option maxRecDepth 10000 in
theorem e1_hasParagraph_tr {X : En} (hX : XV X) {σ : Wd} {x1 : Int} {F : Int → Wd → Prop} (h :
    iR x1 ∧
    (x1 < 0 → ((0 : Int) = 0 ∨ (0 : Int) = 1) ∧ F 0 σ) ∧
    (¬ (x1 < 0) → iR x1 ∧ iR (σ tr_paragraphs 0) ∧
      ((σ tr_paragraphs 0) ≤ x1 → ((0 : Int) = 0 ∨ (0 : Int) = 1) ∧ F 0 σ) ∧
      (¬ ((σ tr_paragraphs 0) ≤ x1) → ((1 : Int) = 0 ∨ (1 : Int) = 1) ∧ F 1 σ))) : TI X k1_hasParagraph [vr o_tr, vi x1] σ F := tr_w hX 10 rfl rfl h
set_option maxRecDepth 10000 in
theorem e1_hasLine {X : En} (hX : XV X) {σ : Wd} {x1 : Int} {F : Int → Wd → Prop} (h :
    iR x1 ∧
    (x1 < 0 → ((0 : Int) = 0 ∨ (0 : Int) = 1) ∧ F 0 σ) ∧
    (¬ (x1 < 0) → iR x1 ∧ iR (σ mt_lines 0) ∧
      ((σ mt_lines 0) ≤ x1 → ((0 : Int) = 0 ∨ (0 : Int) = 1) ∧ F 0 σ) ∧
      (¬ ((σ mt_lines 0) ≤ x1) → ((1 : Int) = 0 ∨ (1 : Int) = 1) ∧ F 1 σ))) : TI X k1_hasLine [vr o_mt, vi x1] σ F := tr_w hX 10 rfl rfl h
set_option maxRecDepth 10000 in
theorem e1_hasNote {X : En} (hX : XV X) {σ : Wd} {x1 : Int} {F : Int → Wd → Prop} (h :
    iR x1 ∧
    (x1 < 0 → ((0 : Int) = 0 ∨ (0 : Int) = 1) ∧ F 0 σ) ∧
    (¬ (x1 < 0) → iR x1 ∧ iR (σ mt_notes 0) ∧
      ((σ mt_notes 0) ≤ x1 → ((0 : Int) = 0 ∨ (0 : Int) = 1) ∧ F 0 σ) ∧
      (¬ ((σ mt_notes 0) ≤ x1) → ((1 : Int) = 0 ∨ (1 : Int) = 1) ∧ F 1 σ))) : TI X k1_hasNote [vr o_mt, vi x1] σ F := tr_w hX 10 rfl rfl h
set_option maxRecDepth 10000 in
theorem e1_addParagraph {X : En} (hX : XV X) {σ : Wd} {x1 x2 : Int} {F : Int → Wd → Prop} (h :
    iR (σ mt_paragraphs 0) ∧ iR 16 ∧
    ((σ mt_paragraphs 0) < 16 → (0 ≤ (σ mt_paragraphs 0) ∧ (σ mt_paragraphs 0) < 16) ∧ ∀ τ1, τ1 = wu σ mt_kinds (σ mt_paragraphs 0) x1 →
      (0 ≤ (τ1 mt_paragraphs 0) ∧ (τ1 mt_paragraphs 0) < 16) ∧ ∀ τ2, τ2 = wu τ1 mt_sizes (τ1 mt_paragraphs 0) x2 →
      ∀ τ3, τ3 = wu τ2 mt_lines 0 ((τ2 mt_lines 0) + x2) →
      ∀ τ4, τ4 = wu τ3 mt_paragraphs 0 ((τ3 mt_paragraphs 0) + 1) →
      F ((τ4 mt_paragraphs 0) - 1) τ4) ∧
    (¬ ((σ mt_paragraphs 0) < 16) → F (-1004) σ)) : TI X k1_addParagraph [vr o_mt, vi x1, vi x2] σ F := tr_w hX 34 rfl rfl h
abbrev L1_resize_mt_26 (X : En) (σ : Wd) (x1 x2 x3 x4 x5 : Int) (F : Wd → Prop) : Prop := Go X k1_resize 26 [some (vr o_mt), some (vi x1), some (vi x2), some (vi x3), some (vi x4), some (vi x5)] [] σ (QV F)
abbrev L1_resize_mt_65 (X : En) (σ : Wd) (x1 x2 x3 x4 x5 : Int) (F : Wd → Prop) : Prop := Go X k1_resize 65 [some (vr o_mt), some (vi x1), some (vi x2), some (vi x3), some (vi x4), some (vi x5)] [] σ (QV F)
set_option maxRecDepth 10000 in
theorem e1_resize_mt {X : En} (hX : XV X) {σ : Wd} {x1 x2 : Int} {F : Wd → Prop} (h :
    TI X k1_hasParagraph [vr o_mt, vi x1] σ (fun r1 τ1 =>
    iR r1 ∧
    (¬ r1 = 0 → TI X k1_firstLineOf [vr o_mt, vi x1] τ1 (fun r2 τ2 =>
      (0 ≤ x1 ∧ x1 < 16) ∧ L1_resize_mt_26 X τ2 x1 x2 r2 (τ2 mt_sizes x1) 0 F)) ∧
    (¬ (¬ r1 = 0) → F τ1))) : TV X k1_resize [vr o_mt, vi x1, vi x2] σ F := tr_w hX 17 rfl rfl h
set_option maxRecDepth 10000 in
theorem c1_resize_mt_26 {X : En} {σ : Wd} {x1 x2 x3 x4 x5 : Int} {F : Wd → Prop} (h :
    iR x5 ∧ iR (σ mt_notes 0) ∧
    ((σ mt_notes 0) ≤ x5 → L1_resize_mt_65 X σ x1 x2 x3 x4 0 F) ∧
    (¬ ((σ mt_notes 0) ≤ x5) → (0 ≤ x5 ∧ x5 < 20) ∧ TI X k1_lineAfterResize [vi (σ mt_noteLine x5), vi x3, vi x4, vi x2] σ (fun r1 τ1 =>
      (0 ≤ x5 ∧ x5 < 20) ∧ ∀ τ2, τ2 = wu τ1 mt_noteLine x5 r1 →
      L1_resize_mt_26 X τ2 x1 x2 x3 x4 (x5 + 1) F))) : L1_resize_mt_26 X σ x1 x2 x3 x4 x5 F := go_w 20 h
set_option maxRecDepth 10000 in
theorem c1_resize_mt_65 {X : En} {σ : Wd} {x1 x2 x3 x4 x5 : Int} {F : Wd → Prop} (h :
    iR x5 ∧ iR (σ mt_figures 0) ∧
    ((σ mt_figures 0) ≤ x5 → (0 ≤ x1 ∧ x1 < 16) ∧ ∀ τ1, τ1 = wu σ mt_sizes x1 x2 →
      ∀ τ2, τ2 = wu τ1 mt_lines 0 ((τ1 mt_lines 0) + (x2 - x4)) →
      TV X k1_sortNotes [vr o_mt] τ2 (fun τ3 =>
      F τ3)) ∧
    (¬ ((σ mt_figures 0) ≤ x5) → (0 ≤ x5 ∧ x5 < 4) ∧ TI X k1_lineAfterResize [vi (σ mt_figureLine x5), vi x3, vi x4, vi x2] σ (fun r4 τ4 =>
      (0 ≤ x5 ∧ x5 < 4) ∧ ∀ τ5, τ5 = wu τ4 mt_figureLine x5 r4 →
      L1_resize_mt_65 X τ5 x1 x2 x3 x4 (x5 + 1) F))) : L1_resize_mt_65 X σ x1 x2 x3 x4 x5 F := go_w 21 h
abbrev L1_resize_tr_26 (X : En) (σ : Wd) (x1 x2 x3 x4 x5 : Int) (F : Wd → Prop) : Prop := Go X k1_resize 26 [some (vr o_tr), some (vi x1), some (vi x2), some (vi x3), some (vi x4), some (vi x5)] [] σ (QV F)
abbrev L1_resize_tr_65 (X : En) (σ : Wd) (x1 x2 x3 x4 x5 : Int) (F : Wd → Prop) : Prop := Go X k1_resize 65 [some (vr o_tr), some (vi x1), some (vi x2), some (vi x3), some (vi x4), some (vi x5)] [] σ (QV F)
set_option maxRecDepth 10000 in
theorem e1_resize_tr {X : En} (hX : XV X) {σ : Wd} {x1 x2 : Int} {F : Wd → Prop} (h :
    TI X k1_hasParagraph [vr o_tr, vi x1] σ (fun r1 τ1 =>
    iR r1 ∧
    (¬ r1 = 0 → TI X k1_firstLineOf [vr o_tr, vi x1] τ1 (fun r2 τ2 =>
      (0 ≤ x1 ∧ x1 < 16) ∧ L1_resize_tr_26 X τ2 x1 x2 r2 (τ2 tr_sizes x1) 0 F)) ∧
    (¬ (¬ r1 = 0) → F τ1))) : TV X k1_resize [vr o_tr, vi x1, vi x2] σ F := tr_w hX 17 rfl rfl h
set_option maxRecDepth 10000 in
theorem c1_resize_tr_26 {X : En} {σ : Wd} {x1 x2 x3 x4 x5 : Int} {F : Wd → Prop} (h :
    iR x5 ∧ iR (σ tr_notes 0) ∧
    ((σ tr_notes 0) ≤ x5 → L1_resize_tr_65 X σ x1 x2 x3 x4 0 F) ∧
    (¬ ((σ tr_notes 0) ≤ x5) → (0 ≤ x5 ∧ x5 < 20) ∧ TI X k1_lineAfterResize [vi (σ tr_noteLine x5), vi x3, vi x4, vi x2] σ (fun r1 τ1 =>
      (0 ≤ x5 ∧ x5 < 20) ∧ ∀ τ2, τ2 = wu τ1 tr_noteLine x5 r1 →
      L1_resize_tr_26 X τ2 x1 x2 x3 x4 (x5 + 1) F))) : L1_resize_tr_26 X σ x1 x2 x3 x4 x5 F := go_w 20 h
set_option maxRecDepth 10000 in
theorem c1_resize_tr_65 {X : En} {σ : Wd} {x1 x2 x3 x4 x5 : Int} {F : Wd → Prop} (h :
    iR x5 ∧ iR (σ tr_figures 0) ∧
    ((σ tr_figures 0) ≤ x5 → (0 ≤ x1 ∧ x1 < 16) ∧ ∀ τ1, τ1 = wu σ tr_sizes x1 x2 →
      ∀ τ2, τ2 = wu τ1 tr_lines 0 ((τ1 tr_lines 0) + (x2 - x4)) →
      TV X k1_sortNotes [vr o_tr] τ2 (fun τ3 =>
      F τ3)) ∧
    (¬ ((σ tr_figures 0) ≤ x5) → (0 ≤ x5 ∧ x5 < 4) ∧ TI X k1_lineAfterResize [vi (σ tr_figureLine x5), vi x3, vi x4, vi x2] σ (fun r4 τ4 =>
      (0 ≤ x5 ∧ x5 < 4) ∧ ∀ τ5, τ5 = wu τ4 tr_figureLine x5 r4 →
      L1_resize_tr_65 X τ5 x1 x2 x3 x4 (x5 + 1) F))) : L1_resize_tr_65 X σ x1 x2 x3 x4 x5 F := go_w 21 h
set_option maxRecDepth 10000 in
theorem e1_lineAfterResize {X : En} (hX : XV X) {σ : Wd} {x0 x1 x2 x3 : Int} {F : Int → Wd → Prop} (h :
    iR x0 ∧ iR (x1 + x2) ∧
    (x0 < (x1 + x2) → iR x0 ∧ iR ((x1 + x3) - 1) ∧ F (min x0 ((x1 + x3) - 1)) σ) ∧
    (¬ (x0 < (x1 + x2)) → F ((x0 + x3) - x2) σ)) : TI X k1_lineAfterResize [vi x0, vi x1, vi x2, vi x3] σ F := tr_w hX 14 rfl rfl h
set_option maxRecDepth 10000 in
theorem e1_addNote {X : En} (hX : XV X) {σ : Wd} {x1 x2 x3 : Int} {F : Int → Wd → Prop} (h :
    iR (σ mt_notes 0) ∧ iR 20 ∧
    ((σ mt_notes 0) < 20 → (0 ≤ (σ mt_notes 0) ∧ (σ mt_notes 0) < 20) ∧ ∀ τ1, τ1 = wu σ mt_noteLine (σ mt_notes 0) x1 →
      (0 ≤ (τ1 mt_notes 0) ∧ (τ1 mt_notes 0) < 20) ∧ ∀ τ2, τ2 = wu τ1 mt_noteBand (τ1 mt_notes 0) x2 →
      (0 ≤ (τ2 mt_notes 0) ∧ (τ2 mt_notes 0) < 20) ∧ ∀ τ3, τ3 = wu τ2 mt_noteRows (τ2 mt_notes 0) x3 →
      (0 ≤ (τ3 mt_notes 0) ∧ (τ3 mt_notes 0) < 20) ∧ ∀ τ4, τ4 = wu τ3 mt_noteTo (τ3 mt_notes 0) (-1) →
      (0 ≤ (τ4 mt_notes 0) ∧ (τ4 mt_notes 0) < 20) ∧ ((0 : Int) = 0 ∨ (0 : Int) = 1) ∧ ∀ τ5, τ5 = wu τ4 mt_noteGrown (τ4 mt_notes 0) 0 →
      ∀ τ6, τ6 = wu τ5 mt_notes 0 ((τ5 mt_notes 0) + 1) →
      TV X k1_sortNotes [vr o_mt] τ6 (fun τ7 =>
      F ((τ7 mt_notes 0) - 1) τ7)) ∧
    (¬ ((σ mt_notes 0) < 20) → F (-1004) σ)) : TI X k1_addNote [vr o_mt, vi x1, vi x2, vi x3] σ F := tr_w hX 48 rfl rfl h
set_option maxRecDepth 10000 in
theorem e1_addFigure {X : En} (hX : XV X) {σ : Wd} {x1 x2 : Int} {F : Int → Wd → Prop} (h :
    iR (σ mt_figures 0) ∧ iR 4 ∧
    ((σ mt_figures 0) < 4 → (0 ≤ (σ mt_figures 0) ∧ (σ mt_figures 0) < 4) ∧ ∀ τ1, τ1 = wu σ mt_figureLine (σ mt_figures 0) x1 →
      (0 ≤ (τ1 mt_figures 0) ∧ (τ1 mt_figures 0) < 4) ∧ ∀ τ2, τ2 = wu τ1 mt_figureRows (τ1 mt_figures 0) x2 →
      ∀ τ3, τ3 = wu τ2 mt_figures 0 ((τ2 mt_figures 0) + 1) →
      F ((τ3 mt_figures 0) - 1) τ3) ∧
    (¬ ((σ mt_figures 0) < 4) → F (-1004) σ)) : TI X k1_addFigure [vr o_mt, vi x1, vi x2] σ F := tr_w hX 28 rfl rfl h
abbrev L1_copyFrom_167 (X : En) (σ : Wd) (x2 : Int) (F : Wd → Prop) : Prop := Go X k1_copyFrom 167 [some (vr o_tr), some (vr o_mt), some (vi x2)] [] σ (QV F)
set_option maxRecDepth 10000 in
theorem e1_copyFrom {X : En} (hX : XV X) {σ : Wd} {F : Wd → Prop} (h :
    ∀ τ1, τ1 = wu σ tr_paragraphs 0 (σ mt_paragraphs 0) →
    ∀ τ2, τ2 = wu τ1 tr_lines 0 (τ1 mt_lines 0) →
    ∀ τ3, τ3 = wu τ2 tr_notes 0 (τ2 mt_notes 0) →
    ∀ τ4, τ4 = wu τ3 tr_figures 0 (τ3 mt_figures 0) →
    (0 ≤ (16 : Int) ∧ 0 ≤ (0 : Int) ∧ 0 ≤ (0 : Int) ∧ (0 : Int) + 16 ≤ 16 ∧ (0 : Int) + 16 ≤ 16) ∧ ∀ τ5, τ5 = wcp τ4 mt_kinds tr_kinds 0 0 16 →
    (0 ≤ (16 : Int) ∧ 0 ≤ (0 : Int) ∧ 0 ≤ (0 : Int) ∧ (0 : Int) + 16 ≤ 16 ∧ (0 : Int) + 16 ≤ 16) ∧ ∀ τ6, τ6 = wcp τ5 mt_sizes tr_sizes 0 0 16 →
    (0 ≤ (20 : Int) ∧ 0 ≤ (0 : Int) ∧ 0 ≤ (0 : Int) ∧ (0 : Int) + 20 ≤ 20 ∧ (0 : Int) + 20 ≤ 20) ∧ ∀ τ7, τ7 = wcp τ6 mt_noteLine tr_noteLine 0 0 20 →
    (0 ≤ (20 : Int) ∧ 0 ≤ (0 : Int) ∧ 0 ≤ (0 : Int) ∧ (0 : Int) + 20 ≤ 20 ∧ (0 : Int) + 20 ≤ 20) ∧ ∀ τ8, τ8 = wcp τ7 mt_noteBand tr_noteBand 0 0 20 →
    (0 ≤ (20 : Int) ∧ 0 ≤ (0 : Int) ∧ 0 ≤ (0 : Int) ∧ (0 : Int) + 20 ≤ 20 ∧ (0 : Int) + 20 ≤ 20) ∧ ∀ τ9, τ9 = wcp τ8 mt_noteRows tr_noteRows 0 0 20 →
    (0 ≤ (20 : Int) ∧ 0 ≤ (0 : Int) ∧ 0 ≤ (0 : Int) ∧ (0 : Int) + 20 ≤ 20 ∧ (0 : Int) + 20 ≤ 20) ∧ ∀ τ10, τ10 = wcp τ9 mt_noteTo tr_noteTo 0 0 20 →
    (0 ≤ (20 : Int) ∧ 0 ≤ (0 : Int) ∧ 0 ≤ (0 : Int) ∧ (0 : Int) + 20 ≤ 20 ∧ (0 : Int) + 20 ≤ 20) ∧ ∀ τ11, τ11 = wcp τ10 mt_order tr_order 0 0 20 →
    (0 ≤ (4 : Int) ∧ 0 ≤ (0 : Int) ∧ 0 ≤ (0 : Int) ∧ (0 : Int) + 4 ≤ 4 ∧ (0 : Int) + 4 ≤ 4) ∧ ∀ τ12, τ12 = wcp τ11 mt_figureLine tr_figureLine 0 0 4 →
    (0 ≤ (4 : Int) ∧ 0 ≤ (0 : Int) ∧ 0 ≤ (0 : Int) ∧ (0 : Int) + 4 ≤ 4 ∧ (0 : Int) + 4 ≤ 4) ∧ ∀ τ13, τ13 = wcp τ12 mt_figureRows tr_figureRows 0 0 4 →
    L1_copyFrom_167 X τ13 0 F) : TV X k1_copyFrom [vr o_tr, vr o_mt] σ F := tr_w hX 92 rfl rfl h
set_option maxRecDepth 10000 in
theorem c1_copyFrom_167 {X : En} {σ : Wd} {x2 : Int} {F : Wd → Prop} (h :
    iR x2 ∧ iR (σ tr_notes 0) ∧
    ((σ tr_notes 0) ≤ x2 → F σ) ∧
    (¬ ((σ tr_notes 0) ≤ x2) → (0 ≤ x2 ∧ x2 < 20) ∧ (0 ≤ x2 ∧ x2 < 20) ∧ ((σ mt_noteGrown x2) = 0 ∨ (σ mt_noteGrown x2) = 1) ∧ ∀ τ1, τ1 = wu σ tr_noteGrown x2 (σ mt_noteGrown x2) →
      L1_copyFrom_167 X τ1 (x2 + 1) F)) : L1_copyFrom_167 X σ x2 F := go_w 16 h
abbrev L1_sortNotes_mt_2 (X : En) (σ : Wd) (x1 : Int) (F : Wd → Prop) : Prop := Go X k1_sortNotes 2 [some (vr o_mt), some (vi x1), none] [] σ (QV F)
abbrev L1_sortNotes_mt_12 (X : En) (σ : Wd) (x1 x2 : Int) (F : Wd → Prop) : Prop := Go X k1_sortNotes 12 [some (vr o_mt), some (vi x1), some (vi x2)] [] σ (QV F)
set_option maxRecDepth 10000 in
theorem e1_sortNotes_mt {X : En} (hX : XV X) {σ : Wd} {F : Wd → Prop} (h :
    L1_sortNotes_mt_2 X σ 0 F) : TV X k1_sortNotes [vr o_mt] σ F := tr_w hX 4 rfl rfl h
set_option maxRecDepth 10000 in
theorem c1_sortNotes_mt_2 {X : En} {σ : Wd} {x1 : Int} {F : Wd → Prop} (h :
    iR x1 ∧ iR (σ mt_notes 0) ∧
    ((σ mt_notes 0) ≤ x1 → F σ) ∧
    (¬ ((σ mt_notes 0) ≤ x1) → L1_sortNotes_mt_12 X σ x1 x1 F)) : L1_sortNotes_mt_2 X σ x1 F := go_w 8 h
set_option maxRecDepth 10000 in
theorem c1_sortNotes_mt_12 {X : En} {σ : Wd} {x1 x2 : Int} {F : Wd → Prop} (h :
    iR x2 ∧
    (x2 ≤ 0 → (0 ≤ x2 ∧ x2 < 20) ∧ ∀ τ1, τ1 = wu σ mt_order x2 x1 →
      L1_sortNotes_mt_2 X τ1 (x1 + 1) F) ∧
    (¬ (x2 ≤ 0) → (0 ≤ (x2 - 1) ∧ (x2 - 1) < 20) ∧ (0 ≤ (σ mt_order (x2 - 1)) ∧ (σ mt_order (x2 - 1)) < 20) ∧ (0 ≤ x1 ∧ x1 < 20) ∧ iR (σ mt_noteLine (σ mt_order (x2 - 1))) ∧ iR (σ mt_noteLine x1) ∧
      ((σ mt_noteLine (σ mt_order (x2 - 1))) ≤ (σ mt_noteLine x1) → (0 ≤ x2 ∧ x2 < 20) ∧ ∀ τ2, τ2 = wu σ mt_order x2 x1 →
        L1_sortNotes_mt_2 X τ2 (x1 + 1) F) ∧
      (¬ ((σ mt_noteLine (σ mt_order (x2 - 1))) ≤ (σ mt_noteLine x1)) → (0 ≤ (x2 - 1) ∧ (x2 - 1) < 20) ∧ (0 ≤ x2 ∧ x2 < 20) ∧ ∀ τ3, τ3 = wu σ mt_order x2 (σ mt_order (x2 - 1)) →
        L1_sortNotes_mt_12 X τ3 x1 (x2 + (-1)) F))) : L1_sortNotes_mt_12 X σ x1 x2 F := go_w 30 h
abbrev L1_sortNotes_tr_2 (X : En) (σ : Wd) (x1 : Int) (F : Wd → Prop) : Prop := Go X k1_sortNotes 2 [some (vr o_tr), some (vi x1), none] [] σ (QV F)
abbrev L1_sortNotes_tr_12 (X : En) (σ : Wd) (x1 x2 : Int) (F : Wd → Prop) : Prop := Go X k1_sortNotes 12 [some (vr o_tr), some (vi x1), some (vi x2)] [] σ (QV F)
set_option maxRecDepth 10000 in
theorem e1_sortNotes_tr {X : En} (hX : XV X) {σ : Wd} {F : Wd → Prop} (h :
    L1_sortNotes_tr_2 X σ 0 F) : TV X k1_sortNotes [vr o_tr] σ F := tr_w hX 4 rfl rfl h
set_option maxRecDepth 10000 in
theorem c1_sortNotes_tr_2 {X : En} {σ : Wd} {x1 : Int} {F : Wd → Prop} (h :
    iR x1 ∧ iR (σ tr_notes 0) ∧
    ((σ tr_notes 0) ≤ x1 → F σ) ∧
    (¬ ((σ tr_notes 0) ≤ x1) → L1_sortNotes_tr_12 X σ x1 x1 F)) : L1_sortNotes_tr_2 X σ x1 F := go_w 8 h
set_option maxRecDepth 10000 in
theorem c1_sortNotes_tr_12 {X : En} {σ : Wd} {x1 x2 : Int} {F : Wd → Prop} (h :
    iR x2 ∧
    (x2 ≤ 0 → (0 ≤ x2 ∧ x2 < 20) ∧ ∀ τ1, τ1 = wu σ tr_order x2 x1 →
      L1_sortNotes_tr_2 X τ1 (x1 + 1) F) ∧
    (¬ (x2 ≤ 0) → (0 ≤ (x2 - 1) ∧ (x2 - 1) < 20) ∧ (0 ≤ (σ tr_order (x2 - 1)) ∧ (σ tr_order (x2 - 1)) < 20) ∧ (0 ≤ x1 ∧ x1 < 20) ∧ iR (σ tr_noteLine (σ tr_order (x2 - 1))) ∧ iR (σ tr_noteLine x1) ∧
      ((σ tr_noteLine (σ tr_order (x2 - 1))) ≤ (σ tr_noteLine x1) → (0 ≤ x2 ∧ x2 < 20) ∧ ∀ τ2, τ2 = wu σ tr_order x2 x1 →
        L1_sortNotes_tr_2 X τ2 (x1 + 1) F) ∧
      (¬ ((σ tr_noteLine (σ tr_order (x2 - 1))) ≤ (σ tr_noteLine x1)) → (0 ≤ (x2 - 1) ∧ (x2 - 1) < 20) ∧ (0 ≤ x2 ∧ x2 < 20) ∧ ∀ τ3, τ3 = wu σ tr_order x2 (σ tr_order (x2 - 1)) →
        L1_sortNotes_tr_12 X τ3 x1 (x2 + (-1)) F))) : L1_sortNotes_tr_12 X σ x1 x2 F := go_w 30 h
abbrev L1_firstLineOf_mt_4 (X : En) (σ : Wd) (x1 x2 x3 : Int) (F : Int → Wd → Prop) : Prop := Go X k1_firstLineOf 4 [some (vr o_mt), some (vi x1), some (vi x2), some (vi x3)] [] σ (QI F)
set_option maxRecDepth 10000 in
theorem e1_firstLineOf_mt {X : En} (hX : XV X) {σ : Wd} {x1 : Int} {F : Int → Wd → Prop} (h :
    L1_firstLineOf_mt_4 X σ x1 0 0 F) : TI X k1_firstLineOf [vr o_mt, vi x1] σ F := tr_w hX 6 rfl rfl h
set_option maxRecDepth 10000 in
theorem c1_firstLineOf_mt_4 {X : En} {σ : Wd} {x1 x2 x3 : Int} {F : Int → Wd → Prop} (h :
    iR x3 ∧ iR x1 ∧
    (x1 ≤ x3 → F x2 σ) ∧
    (¬ (x1 ≤ x3) → iR x3 ∧ iR (σ mt_paragraphs 0) ∧
      ((σ mt_paragraphs 0) ≤ x3 → F x2 σ) ∧
      (¬ ((σ mt_paragraphs 0) ≤ x3) → (0 ≤ x3 ∧ x3 < 16) ∧ L1_firstLineOf_mt_4 X σ x1 (x2 + (σ mt_sizes x3)) (x3 + 1) F))) : L1_firstLineOf_mt_4 X σ x1 x2 x3 F := go_w 18 h
abbrev L1_firstLineOf_tr_4 (X : En) (σ : Wd) (x1 x2 x3 : Int) (F : Int → Wd → Prop) : Prop := Go X k1_firstLineOf 4 [some (vr o_tr), some (vi x1), some (vi x2), some (vi x3)] [] σ (QI F)
set_option maxRecDepth 10000 in
theorem e1_firstLineOf_tr {X : En} (hX : XV X) {σ : Wd} {x1 : Int} {F : Int → Wd → Prop} (h :
    L1_firstLineOf_tr_4 X σ x1 0 0 F) : TI X k1_firstLineOf [vr o_tr, vi x1] σ F := tr_w hX 6 rfl rfl h
set_option maxRecDepth 10000 in
theorem c1_firstLineOf_tr_4 {X : En} {σ : Wd} {x1 x2 x3 : Int} {F : Int → Wd → Prop} (h :
    iR x3 ∧ iR x1 ∧
    (x1 ≤ x3 → F x2 σ) ∧
    (¬ (x1 ≤ x3) → iR x3 ∧ iR (σ tr_paragraphs 0) ∧
      ((σ tr_paragraphs 0) ≤ x3 → F x2 σ) ∧
      (¬ ((σ tr_paragraphs 0) ≤ x3) → (0 ≤ x3 ∧ x3 < 16) ∧ L1_firstLineOf_tr_4 X σ x1 (x2 + (σ tr_sizes x3)) (x3 + 1) F))) : L1_firstLineOf_tr_4 X σ x1 x2 x3 F := go_w 18 h
abbrev L1_paragraphOf_4 (X : En) (σ : Wd) (x1 x2 x3 : Int) (F : Int → Wd → Prop) : Prop := Go X k1_paragraphOf 4 [some (vr o_mt), some (vi x1), some (vi x2), some (vi x3)] [] σ (QI F)
set_option maxRecDepth 10000 in
theorem e1_paragraphOf {X : En} (hX : XV X) {σ : Wd} {x1 : Int} {F : Int → Wd → Prop} (h :
    L1_paragraphOf_4 X σ x1 0 0 F) : TI X k1_paragraphOf [vr o_mt, vi x1] σ F := tr_w hX 6 rfl rfl h
set_option maxRecDepth 10000 in
theorem c1_paragraphOf_4 {X : En} {σ : Wd} {x1 x2 x3 : Int} {F : Int → Wd → Prop} (h :
    iR x3 ∧ iR (σ mt_paragraphs 0) ∧
    ((σ mt_paragraphs 0) ≤ x3 → F (-1) σ) ∧
    (¬ ((σ mt_paragraphs 0) ≤ x3) → (0 ≤ x3 ∧ x3 < 16) ∧ iR x1 ∧ iR (x2 + (σ mt_sizes x3)) ∧
      ((x2 + (σ mt_sizes x3)) ≤ x1 → L1_paragraphOf_4 X σ x1 (x2 + (σ mt_sizes x3)) (x3 + 1) F) ∧
      (¬ ((x2 + (σ mt_sizes x3)) ≤ x1) → F x3 σ))) : L1_paragraphOf_4 X σ x1 x2 x3 F := go_w 18 h
set_option maxRecDepth 10000 in
theorem e1_lineOfLastFigure {X : En} (hX : XV X) {σ : Wd} {F : Int → Wd → Prop} (h :
    iR (σ mt_figures 0) ∧
    ((σ mt_figures 0) ≤ 0 → F 0 σ) ∧
    (¬ ((σ mt_figures 0) ≤ 0) → (0 ≤ ((σ mt_figures 0) - 1) ∧ ((σ mt_figures 0) - 1) < 4) ∧ F (σ mt_figureLine ((σ mt_figures 0) - 1)) σ)) : TI X k1_lineOfLastFigure [vr o_mt] σ F := tr_w hX 13 rfl rfl h
set_option maxRecDepth 10000 in
theorem e1_rowsOfNote_mt {X : En} (hX : XV X) {σ : Wd} {x1 : Int} {F : Int → Wd → Prop} (h :
    (0 ≤ x1 ∧ x1 < 20) ∧ iR (σ mt_noteGrown x1) ∧
    ((σ mt_noteGrown x1) = 0 → (0 ≤ x1 ∧ x1 < 20) ∧ F (σ mt_noteRows x1) σ) ∧
    (¬ ((σ mt_noteGrown x1) = 0) → (0 ≤ x1 ∧ x1 < 20) ∧ F ((σ mt_noteRows x1) + 1) σ)) : TI X k1_rowsOfNote [vr o_mt, vi x1] σ F := tr_w hX 14 rfl rfl h
set_option maxRecDepth 10000 in
theorem e1_rowsOfNote_tr {X : En} (hX : XV X) {σ : Wd} {x1 : Int} {F : Int → Wd → Prop} (h :
    (0 ≤ x1 ∧ x1 < 20) ∧ iR (σ tr_noteGrown x1) ∧
    ((σ tr_noteGrown x1) = 0 → (0 ≤ x1 ∧ x1 < 20) ∧ F (σ tr_noteRows x1) σ) ∧
    (¬ ((σ tr_noteGrown x1) = 0) → (0 ≤ x1 ∧ x1 < 20) ∧ F ((σ tr_noteRows x1) + 1) σ)) : TI X k1_rowsOfNote [vr o_tr, vi x1] σ F := tr_w hX 14 rfl rfl h
abbrev L1_countNotesIn_4 (X : En) (σ : Wd) (x1 x2 x3 : Int) (F : Int → Wd → Prop) : Prop := Go X k1_countNotesIn 4 [some (vr o_mt), some (vi x1), some (vi x2), some (vi x3)] [] σ (QI F)
set_option maxRecDepth 10000 in
theorem e1_countNotesIn {X : En} (hX : XV X) {σ : Wd} {x1 : Int} {F : Int → Wd → Prop} (h :
    L1_countNotesIn_4 X σ x1 0 0 F) : TI X k1_countNotesIn [vr o_mt, vi x1] σ F := tr_w hX 6 rfl rfl h
set_option maxRecDepth 10000 in
theorem c1_countNotesIn_4 {X : En} {σ : Wd} {x1 x2 x3 : Int} {F : Int → Wd → Prop} (h :
    iR x3 ∧ iR (σ mt_notes 0) ∧
    ((σ mt_notes 0) ≤ x3 → F x2 σ) ∧
    (¬ ((σ mt_notes 0) ≤ x3) → (0 ≤ x3 ∧ x3 < 20) ∧ iR (σ mt_noteLine x3) ∧ iR x1 ∧
      (¬ (σ mt_noteLine x3) = x1 → L1_countNotesIn_4 X σ x1 x2 (x3 + 1) F) ∧
      (¬ (¬ (σ mt_noteLine x3) = x1) → L1_countNotesIn_4 X σ x1 (x2 + 1) (x3 + 1) F))) : L1_countNotesIn_4 X σ x1 x2 x3 F := go_w 15 h
abbrev L1_countFiguresIn_4 (X : En) (σ : Wd) (x1 x2 x3 : Int) (F : Int → Wd → Prop) : Prop := Go X k1_countFiguresIn 4 [some (vr o_mt), some (vi x1), some (vi x2), some (vi x3)] [] σ (QI F)
set_option maxRecDepth 10000 in
theorem e1_countFiguresIn {X : En} (hX : XV X) {σ : Wd} {x1 : Int} {F : Int → Wd → Prop} (h :
    L1_countFiguresIn_4 X σ x1 0 0 F) : TI X k1_countFiguresIn [vr o_mt, vi x1] σ F := tr_w hX 6 rfl rfl h
set_option maxRecDepth 10000 in
theorem c1_countFiguresIn_4 {X : En} {σ : Wd} {x1 x2 x3 : Int} {F : Int → Wd → Prop} (h :
    iR x3 ∧ iR (σ mt_figures 0) ∧
    ((σ mt_figures 0) ≤ x3 → F x2 σ) ∧
    (¬ ((σ mt_figures 0) ≤ x3) → (0 ≤ x3 ∧ x3 < 4) ∧ iR (σ mt_figureLine x3) ∧ iR x1 ∧
      (¬ (σ mt_figureLine x3) = x1 → L1_countFiguresIn_4 X σ x1 x2 (x3 + 1) F) ∧
      (¬ (¬ (σ mt_figureLine x3) = x1) → L1_countFiguresIn_4 X σ x1 (x2 + 1) (x3 + 1) F))) : L1_countFiguresIn_4 X σ x1 x2 x3 F := go_w 15 h
abbrev L1_countGrown_4 (X : En) (σ : Wd) (x1 x2 : Int) (F : Int → Wd → Prop) : Prop := Go X k1_countGrown 4 [some (vr o_mt), some (vi x1), some (vi x2)] [] σ (QI F)
set_option maxRecDepth 10000 in
theorem e1_countGrown {X : En} (hX : XV X) {σ : Wd} {F : Int → Wd → Prop} (h :
    L1_countGrown_4 X σ 0 0 F) : TI X k1_countGrown [vr o_mt] σ F := tr_w hX 6 rfl rfl h
set_option maxRecDepth 10000 in
theorem c1_countGrown_4 {X : En} {σ : Wd} {x1 x2 : Int} {F : Int → Wd → Prop} (h :
    iR x2 ∧ iR (σ mt_notes 0) ∧
    ((σ mt_notes 0) ≤ x2 → F x1 σ) ∧
    (¬ ((σ mt_notes 0) ≤ x2) → (0 ≤ x2 ∧ x2 < 20) ∧ iR (σ mt_noteGrown x2) ∧
      ((σ mt_noteGrown x2) = 0 → L1_countGrown_4 X σ x1 (x2 + 1) F) ∧
      (¬ ((σ mt_noteGrown x2) = 0) → L1_countGrown_4 X σ (x1 + 1) (x2 + 1) F))) : L1_countGrown_4 X σ x1 x2 F := go_w 14 h
abbrev L1_shrinkAll_4 (X : En) (σ : Wd) (x1 x2 : Int) (F : Int → Wd → Prop) : Prop := Go X k1_shrinkAll 4 [some (vr o_mt), some (vi x1), some (vi x2)] [] σ (QI F)
set_option maxRecDepth 10000 in
theorem e1_shrinkAll {X : En} (hX : XV X) {σ : Wd} {F : Int → Wd → Prop} (h :
    L1_shrinkAll_4 X σ 0 0 F) : TI X k1_shrinkAll [vr o_mt] σ F := tr_w hX 6 rfl rfl h
set_option maxRecDepth 10000 in
theorem c1_shrinkAll_4 {X : En} {σ : Wd} {x1 x2 : Int} {F : Int → Wd → Prop} (h :
    iR x2 ∧ iR (σ mt_notes 0) ∧
    ((σ mt_notes 0) ≤ x2 → (x1 = 0 ∨ x1 = 1) ∧ F x1 σ) ∧
    (¬ ((σ mt_notes 0) ≤ x2) → iR x1 ∧
      (¬ x1 = 0 → (0 ≤ x2 ∧ x2 < 20) ∧ ((0 : Int) = 0 ∨ (0 : Int) = 1) ∧ ∀ τ1, τ1 = wu σ mt_noteGrown x2 0 →
        L1_shrinkAll_4 X τ1 1 (x2 + 1) F) ∧
      (¬ (¬ x1 = 0) → (0 ≤ x2 ∧ x2 < 20) ∧ iR (σ mt_noteGrown x2) ∧
        ((σ mt_noteGrown x2) = 0 → (0 ≤ x2 ∧ x2 < 20) ∧ ((0 : Int) = 0 ∨ (0 : Int) = 1) ∧ ∀ τ2, τ2 = wu σ mt_noteGrown x2 0 →
          L1_shrinkAll_4 X τ2 0 (x2 + 1) F) ∧
        (¬ ((σ mt_noteGrown x2) = 0) → (0 ≤ x2 ∧ x2 < 20) ∧ ((0 : Int) = 0 ∨ (0 : Int) = 1) ∧ ∀ τ3, τ3 = wu σ mt_noteGrown x2 0 →
          L1_shrinkAll_4 X τ3 1 (x2 + 1) F)))) : L1_shrinkAll_4 X σ x1 x2 F := go_w 23 h
abbrev L1_placeInBand_5 (X : En) (σ : Wd) (x1 x2 x3 x4 : Int) (F : Int → Wd → Prop) : Prop := Go X k1_placeInBand 5 [some (vr o_mt), some (vi x1), some (vi x2), some (vi x3), some (vi x4), none] [] σ (QI F)
set_option maxRecDepth 10000 in
theorem e1_placeInBand {X : En} (hX : XV X) {σ : Wd} {x1 x2 : Int} {F : Int → Wd → Prop} (h :
    L1_placeInBand_5 X σ x1 x2 0 0 F) : TI X k1_placeInBand [vr o_mt, vi x1, vi x2] σ F := tr_w hX 6 rfl rfl h
set_option maxRecDepth 10000 in
theorem c1_placeInBand_5 {X : En} {σ : Wd} {x1 x2 x3 x4 : Int} {F : Int → Wd → Prop} (h :
    iR x4 ∧ iR (σ mt_notes 0) ∧
    ((σ mt_notes 0) ≤ x4 → F x3 σ) ∧
    (¬ ((σ mt_notes 0) ≤ x4) → (0 ≤ x4 ∧ x4 < 20) ∧ (0 ≤ (σ mt_order x4) ∧ (σ mt_order x4) < 20) ∧ (0 ≤ x1 ∧ x1 < 20) ∧ iR (σ mt_noteBand (σ mt_order x4)) ∧ iR (σ mt_noteBand x1) ∧
      (¬ (σ mt_noteBand (σ mt_order x4)) = (σ mt_noteBand x1) → iR (σ mt_order x4) ∧ iR x1 ∧
        (¬ (σ mt_order x4) = x1 → L1_placeInBand_5 X σ x1 x2 x3 (x4 + 1) F) ∧
        (¬ (¬ (σ mt_order x4) = x1) → F x3 σ)) ∧
      (¬ (¬ (σ mt_noteBand (σ mt_order x4)) = (σ mt_noteBand x1)) → (0 ≤ (σ mt_order x4) ∧ (σ mt_order x4) < 20) ∧ iR (σ mt_noteLine (σ mt_order x4)) ∧ iR x2 ∧
        ((σ mt_noteLine (σ mt_order x4)) < x2 → iR (σ mt_order x4) ∧ iR x1 ∧
          (¬ (σ mt_order x4) = x1 → L1_placeInBand_5 X σ x1 x2 x3 (x4 + 1) F) ∧
          (¬ (¬ (σ mt_order x4) = x1) → F x3 σ)) ∧
        (¬ ((σ mt_noteLine (σ mt_order x4)) < x2) → iR (σ mt_order x4) ∧ iR x1 ∧
          (¬ (σ mt_order x4) = x1 → L1_placeInBand_5 X σ x1 x2 (x3 + 1) (x4 + 1) F) ∧
          (¬ (¬ (σ mt_order x4) = x1) → F (x3 + 1) σ))))) : L1_placeInBand_5 X σ x1 x2 x3 x4 F := go_w 32 h
abbrev L1_lastOfSplitting_4 (X : En) (σ : Wd) (x1 x2 x3 : Int) (F : Int → Wd → Prop) : Prop := Go X k1_lastOfSplitting 4 [some (vr o_mt), some (vi x1), some (vi x2), some (vi x3), none] [] σ (QI F)
set_option maxRecDepth 10000 in
theorem e1_lastOfSplitting {X : En} (hX : XV X) {σ : Wd} {x1 : Int} {F : Int → Wd → Prop} (h :
    L1_lastOfSplitting_4 X σ x1 (-1) 0 F) : TI X k1_lastOfSplitting [vr o_mt, vi x1] σ F := tr_w hX 6 rfl rfl h
set_option maxRecDepth 10000 in
theorem c1_lastOfSplitting_4 {X : En} {σ : Wd} {x1 x2 x3 : Int} {F : Int → Wd → Prop} (h :
    iR x3 ∧ iR (σ mt_notes 0) ∧
    ((σ mt_notes 0) ≤ x3 → F x2 σ) ∧
    (¬ ((σ mt_notes 0) ≤ x3) → (0 ≤ x3 ∧ x3 < 20) ∧ (0 ≤ (σ mt_order x3) ∧ (σ mt_order x3) < 20) ∧ iR (σ mt_noteBand (σ mt_order x3)) ∧
      (¬ (σ mt_noteBand (σ mt_order x3)) = 0 → L1_lastOfSplitting_4 X σ x1 x2 (x3 + 1) F) ∧
      (¬ (¬ (σ mt_noteBand (σ mt_order x3)) = 0) → (0 ≤ (σ mt_order x3) ∧ (σ mt_order x3) < 20) ∧ iR (σ mt_noteLine (σ mt_order x3)) ∧ iR x1 ∧
        (x1 ≤ (σ mt_noteLine (σ mt_order x3)) → L1_lastOfSplitting_4 X σ x1 x2 (x3 + 1) F) ∧
        (¬ (x1 ≤ (σ mt_noteLine (σ mt_order x3))) → L1_lastOfSplitting_4 X σ x1 (σ mt_order x3) (x3 + 1) F)))) : L1_lastOfSplitting_4 X σ x1 x2 x3 F := go_w 26 h
abbrev L1_rowInMargin_5 (X : En) (σ : Wd) (x1 x2 x3 x4 : Int) (F : Int → Wd → Prop) : Prop := Go X k1_rowInMargin 5 [some (vr o_mt), some (vi x1), some (vi x2), some (vi x3), some (vi x4), none, none] [] σ (QI F)
set_option maxRecDepth 10000 in
theorem e1_rowInMargin {X : En} (hX : XV X) {σ : Wd} {x1 x2 : Int} {F : Int → Wd → Prop} (h :
    L1_rowInMargin_5 X σ x1 x2 0 0 F) : TI X k1_rowInMargin [vr o_mt, vi x1, vi x2] σ F := tr_w hX 6 rfl rfl h
set_option maxRecDepth 10000 in
theorem c1_rowInMargin_5 {X : En} {σ : Wd} {x1 x2 x3 x4 : Int} {F : Int → Wd → Prop} (h :
    iR x4 ∧ iR (σ mt_notes 0) ∧
    ((σ mt_notes 0) ≤ x4 → F (-1) σ) ∧
    (¬ ((σ mt_notes 0) ≤ x4) → (0 ≤ x4 ∧ x4 < 20) ∧ (0 ≤ (σ mt_order x4) ∧ (σ mt_order x4) < 20) ∧ iR (σ mt_noteBand (σ mt_order x4)) ∧ iR 2 ∧
      (¬ (σ mt_noteBand (σ mt_order x4)) = 2 → L1_rowInMargin_5 X σ x1 x2 x3 (x4 + 1) F) ∧
      (¬ (¬ (σ mt_noteBand (σ mt_order x4)) = 2) → (0 ≤ (σ mt_order x4) ∧ (σ mt_order x4) < 20) ∧ iR (σ mt_noteLine (σ mt_order x4)) ∧ iR x2 ∧
        ((σ mt_noteLine (σ mt_order x4)) < x2 → L1_rowInMargin_5 X σ x1 x2 x3 (x4 + 1) F) ∧
        (¬ ((σ mt_noteLine (σ mt_order x4)) < x2) → (0 ≤ (σ mt_order x4) ∧ (σ mt_order x4) < 20) ∧ iR ((σ mt_noteLine (σ mt_order x4)) - x2) ∧ iR x3 ∧ iR (σ mt_order x4) ∧ iR x1 ∧
          (¬ (σ mt_order x4) = x1 → TI X k1_rowsOfNote [vr o_mt, vi (σ mt_order x4)] σ (fun r1 τ1 =>
            L1_rowInMargin_5 X τ1 x1 x2 ((max ((σ mt_noteLine (σ mt_order x4)) - x2) x3) + r1) (x4 + 1) F)) ∧
          (¬ (¬ (σ mt_order x4) = x1) → F (max ((σ mt_noteLine (σ mt_order x4)) - x2) x3) σ))))) : L1_rowInMargin_5 X σ x1 x2 x3 x4 F := go_w 43 h
