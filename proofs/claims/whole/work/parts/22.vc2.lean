set_option maxRecDepth 10000 in
theorem e2_take_mt {X : En} (hX : XV X) {σ : Wd} {F : Wd → Prop} (h :
    ∀ τ1, τ1 = wu σ ms_lines 0 (σ mt_lines 0) →
    TV X k2_takeParagraphs [vr o_ms, vr o_mt] τ1 (fun τ2 =>
    TV X k2_takeNotes [vr o_ms, vr o_mt] τ2 (fun τ3 =>
    TV X k2_takeFigures [vr o_ms, vr o_mt] τ3 (fun τ4 =>
    F τ4)))) : TV X k2_take [vr o_ms, vr o_mt] σ F := tr_w hX 15 rfl rfl h
set_option maxRecDepth 10000 in
theorem e2_take_tr {X : En} (hX : XV X) {σ : Wd} {F : Wd → Prop} (h :
    ∀ τ1, τ1 = wu σ ms_lines 0 (σ tr_lines 0) →
    TV X k2_takeParagraphs [vr o_ms, vr o_tr] τ1 (fun τ2 =>
    TV X k2_takeNotes [vr o_ms, vr o_tr] τ2 (fun τ3 =>
    TV X k2_takeFigures [vr o_ms, vr o_tr] τ3 (fun τ4 =>
    F τ4)))) : TV X k2_take [vr o_ms, vr o_tr] σ F := tr_w hX 15 rfl rfl h
abbrev L2_takeParagraphs_mt_4 (X : En) (σ : Wd) (x2 x3 : Int) (F : Wd → Prop) : Prop := Go X k2_takeParagraphs 4 [some (vr o_ms), some (vr o_mt), some (vi x2), some (vi x3), none, none] [] σ (QV F)
abbrev L2_takeParagraphs_mt_23 (X : En) (σ : Wd) (x2 x3 x4 x5 : Int) (F : Wd → Prop) : Prop := Go X k2_takeParagraphs 23 [some (vr o_ms), some (vr o_mt), some (vi x2), some (vi x3), some (vi x4), some (vi x5)] [] σ (QV F)
abbrev L2_takeParagraphs_mt_57 (X : En) (σ : Wd) (x2 x3 x4 x5 s0 s1 : Int) (F : Wd → Prop) : Prop := Go X k2_takeParagraphs 57 [some (vr o_ms), some (vr o_mt), some (vi x2), some (vi x3), some (vi x4), some (vi x5)] [vi s0, vi s1, vr o_ms_firstOfMany] σ (QV F)
abbrev L2_takeParagraphs_mt_83 (X : En) (σ : Wd) (x2 x3 x4 x5 s0 s1 : Int) (F : Wd → Prop) : Prop := Go X k2_takeParagraphs 83 [some (vr o_ms), some (vr o_mt), some (vi x2), some (vi x3), some (vi x4), some (vi x5)] [vi s0, vi s1, vr o_ms_lastOfMany] σ (QV F)
set_option maxRecDepth 10000 in
theorem e2_takeParagraphs_mt {X : En} (hX : XV X) {σ : Wd} {F : Wd → Prop} (h :
    L2_takeParagraphs_mt_4 X σ 0 0 F) : TV X k2_takeParagraphs [vr o_ms, vr o_mt] σ F := tr_w hX 6 rfl rfl h
set_option maxRecDepth 10000 in
theorem c2_takeParagraphs_mt_4 {X : En} {σ : Wd} {x2 x3 : Int} {F : Wd → Prop} (h :
    iR x3 ∧ iR (σ mt_paragraphs 0) ∧
    ((σ mt_paragraphs 0) ≤ x3 → F σ) ∧
    (¬ ((σ mt_paragraphs 0) ≤ x3) → (0 ≤ x3 ∧ x3 < 16) ∧ L2_takeParagraphs_mt_23 X σ x2 x3 (σ mt_sizes x3) 0 F)) : L2_takeParagraphs_mt_4 X σ x2 x3 F := go_w 13 h
set_option maxRecDepth 10000 in
theorem c2_takeParagraphs_mt_23 {X : En} {σ : Wd} {x2 x3 x4 x5 : Int} {F : Wd → Prop} (h :
    iR x5 ∧ iR x4 ∧
    (x4 ≤ x5 → L2_takeParagraphs_mt_4 X σ x2 (x3 + 1) F) ∧
    (¬ (x4 ≤ x5) → iR x2 ∧ iR 50 ∧
      (50 ≤ x2 → L2_takeParagraphs_mt_4 X σ x2 (x3 + 1) F) ∧
      (¬ (50 ≤ x2) → iR x4 ∧ iR 1 ∧
        (x4 ≤ 1 → L2_takeParagraphs_mt_57 X σ x2 x3 x4 x5 0 x2 F) ∧
        (¬ (x4 ≤ 1) → iR x5 ∧
          (¬ x5 = 0 → L2_takeParagraphs_mt_57 X σ x2 x3 x4 x5 0 x2 F) ∧
          (¬ (¬ x5 = 0) → L2_takeParagraphs_mt_57 X σ x2 x3 x4 x5 1 x2 F))))) : L2_takeParagraphs_mt_23 X σ x2 x3 x4 x5 F := go_w 18 h
set_option maxRecDepth 10000 in
theorem c2_takeParagraphs_mt_57 {X : En} {σ : Wd} {x2 x3 x4 x5 s0 s1 : Int} {F : Wd → Prop} (h :
    (0 ≤ s1 ∧ s1 < 50) ∧ (s0 = 0 ∨ s0 = 1) ∧ ∀ τ1, τ1 = wu σ ms_firstOfMany s1 s0 →
    iR x4 ∧ iR 1 ∧
    (x4 ≤ 1 → L2_takeParagraphs_mt_83 X τ1 x2 x3 x4 x5 0 x2 F) ∧
    (¬ (x4 ≤ 1) → iR x5 ∧ iR (x4 - 1) ∧
      (¬ x5 = (x4 - 1) → L2_takeParagraphs_mt_83 X τ1 x2 x3 x4 x5 0 x2 F) ∧
      (¬ (¬ x5 = (x4 - 1)) → L2_takeParagraphs_mt_83 X τ1 x2 x3 x4 x5 1 x2 F))) : L2_takeParagraphs_mt_57 X σ x2 x3 x4 x5 s0 s1 F := go_w 16 h
set_option maxRecDepth 10000 in
theorem c2_takeParagraphs_mt_83 {X : En} {σ : Wd} {x2 x3 x4 x5 s0 s1 : Int} {F : Wd → Prop} (h :
    (0 ≤ s1 ∧ s1 < 50) ∧ (s0 = 0 ∨ s0 = 1) ∧ ∀ τ1, τ1 = wu σ ms_lastOfMany s1 s0 →
    (0 ≤ x3 ∧ x3 < 16) ∧ iR (τ1 mt_kinds x3) ∧ iR 1 ∧
    (¬ (τ1 mt_kinds x3) = 1 → (0 ≤ x2 ∧ x2 < 50) ∧ ((0 : Int) = 0 ∨ (0 : Int) = 1) ∧ ∀ τ2, τ2 = wu τ1 ms_lastOfHead x2 0 →
      L2_takeParagraphs_mt_23 X τ2 (x2 + 1) x3 x4 (x5 + 1) F) ∧
    (¬ (¬ (τ1 mt_kinds x3) = 1) → iR x5 ∧ iR (x4 - 1) ∧
      (¬ x5 = (x4 - 1) → (0 ≤ x2 ∧ x2 < 50) ∧ ((0 : Int) = 0 ∨ (0 : Int) = 1) ∧ ∀ τ3, τ3 = wu τ1 ms_lastOfHead x2 0 →
        L2_takeParagraphs_mt_23 X τ3 (x2 + 1) x3 x4 (x5 + 1) F) ∧
      (¬ (¬ x5 = (x4 - 1)) → (0 ≤ x2 ∧ x2 < 50) ∧ ((1 : Int) = 0 ∨ (1 : Int) = 1) ∧ ∀ τ4, τ4 = wu τ1 ms_lastOfHead x2 1 →
        L2_takeParagraphs_mt_23 X τ4 (x2 + 1) x3 x4 (x5 + 1) F))) : L2_takeParagraphs_mt_83 X σ x2 x3 x4 x5 s0 s1 F := go_w 23 h
abbrev L2_takeParagraphs_tr_4 (X : En) (σ : Wd) (x2 x3 : Int) (F : Wd → Prop) : Prop := Go X k2_takeParagraphs 4 [some (vr o_ms), some (vr o_tr), some (vi x2), some (vi x3), none, none] [] σ (QV F)
abbrev L2_takeParagraphs_tr_23 (X : En) (σ : Wd) (x2 x3 x4 x5 : Int) (F : Wd → Prop) : Prop := Go X k2_takeParagraphs 23 [some (vr o_ms), some (vr o_tr), some (vi x2), some (vi x3), some (vi x4), some (vi x5)] [] σ (QV F)
abbrev L2_takeParagraphs_tr_57 (X : En) (σ : Wd) (x2 x3 x4 x5 s0 s1 : Int) (F : Wd → Prop) : Prop := Go X k2_takeParagraphs 57 [some (vr o_ms), some (vr o_tr), some (vi x2), some (vi x3), some (vi x4), some (vi x5)] [vi s0, vi s1, vr o_ms_firstOfMany] σ (QV F)
abbrev L2_takeParagraphs_tr_83 (X : En) (σ : Wd) (x2 x3 x4 x5 s0 s1 : Int) (F : Wd → Prop) : Prop := Go X k2_takeParagraphs 83 [some (vr o_ms), some (vr o_tr), some (vi x2), some (vi x3), some (vi x4), some (vi x5)] [vi s0, vi s1, vr o_ms_lastOfMany] σ (QV F)
set_option maxRecDepth 10000 in
theorem e2_takeParagraphs_tr {X : En} (hX : XV X) {σ : Wd} {F : Wd → Prop} (h :
    L2_takeParagraphs_tr_4 X σ 0 0 F) : TV X k2_takeParagraphs [vr o_ms, vr o_tr] σ F := tr_w hX 6 rfl rfl h
set_option maxRecDepth 10000 in
theorem c2_takeParagraphs_tr_4 {X : En} {σ : Wd} {x2 x3 : Int} {F : Wd → Prop} (h :
    iR x3 ∧ iR (σ tr_paragraphs 0) ∧
    ((σ tr_paragraphs 0) ≤ x3 → F σ) ∧
    (¬ ((σ tr_paragraphs 0) ≤ x3) → (0 ≤ x3 ∧ x3 < 16) ∧ L2_takeParagraphs_tr_23 X σ x2 x3 (σ tr_sizes x3) 0 F)) : L2_takeParagraphs_tr_4 X σ x2 x3 F := go_w 13 h
set_option maxRecDepth 10000 in
theorem c2_takeParagraphs_tr_23 {X : En} {σ : Wd} {x2 x3 x4 x5 : Int} {F : Wd → Prop} (h :
    iR x5 ∧ iR x4 ∧
    (x4 ≤ x5 → L2_takeParagraphs_tr_4 X σ x2 (x3 + 1) F) ∧
    (¬ (x4 ≤ x5) → iR x2 ∧ iR 50 ∧
      (50 ≤ x2 → L2_takeParagraphs_tr_4 X σ x2 (x3 + 1) F) ∧
      (¬ (50 ≤ x2) → iR x4 ∧ iR 1 ∧
        (x4 ≤ 1 → L2_takeParagraphs_tr_57 X σ x2 x3 x4 x5 0 x2 F) ∧
        (¬ (x4 ≤ 1) → iR x5 ∧
          (¬ x5 = 0 → L2_takeParagraphs_tr_57 X σ x2 x3 x4 x5 0 x2 F) ∧
          (¬ (¬ x5 = 0) → L2_takeParagraphs_tr_57 X σ x2 x3 x4 x5 1 x2 F))))) : L2_takeParagraphs_tr_23 X σ x2 x3 x4 x5 F := go_w 18 h
set_option maxRecDepth 10000 in
theorem c2_takeParagraphs_tr_57 {X : En} {σ : Wd} {x2 x3 x4 x5 s0 s1 : Int} {F : Wd → Prop} (h :
    (0 ≤ s1 ∧ s1 < 50) ∧ (s0 = 0 ∨ s0 = 1) ∧ ∀ τ1, τ1 = wu σ ms_firstOfMany s1 s0 →
    iR x4 ∧ iR 1 ∧
    (x4 ≤ 1 → L2_takeParagraphs_tr_83 X τ1 x2 x3 x4 x5 0 x2 F) ∧
    (¬ (x4 ≤ 1) → iR x5 ∧ iR (x4 - 1) ∧
      (¬ x5 = (x4 - 1) → L2_takeParagraphs_tr_83 X τ1 x2 x3 x4 x5 0 x2 F) ∧
      (¬ (¬ x5 = (x4 - 1)) → L2_takeParagraphs_tr_83 X τ1 x2 x3 x4 x5 1 x2 F))) : L2_takeParagraphs_tr_57 X σ x2 x3 x4 x5 s0 s1 F := go_w 16 h
set_option maxRecDepth 10000 in
theorem c2_takeParagraphs_tr_83 {X : En} {σ : Wd} {x2 x3 x4 x5 s0 s1 : Int} {F : Wd → Prop} (h :
    (0 ≤ s1 ∧ s1 < 50) ∧ (s0 = 0 ∨ s0 = 1) ∧ ∀ τ1, τ1 = wu σ ms_lastOfMany s1 s0 →
    (0 ≤ x3 ∧ x3 < 16) ∧ iR (τ1 tr_kinds x3) ∧ iR 1 ∧
    (¬ (τ1 tr_kinds x3) = 1 → (0 ≤ x2 ∧ x2 < 50) ∧ ((0 : Int) = 0 ∨ (0 : Int) = 1) ∧ ∀ τ2, τ2 = wu τ1 ms_lastOfHead x2 0 →
      L2_takeParagraphs_tr_23 X τ2 (x2 + 1) x3 x4 (x5 + 1) F) ∧
    (¬ (¬ (τ1 tr_kinds x3) = 1) → iR x5 ∧ iR (x4 - 1) ∧
      (¬ x5 = (x4 - 1) → (0 ≤ x2 ∧ x2 < 50) ∧ ((0 : Int) = 0 ∨ (0 : Int) = 1) ∧ ∀ τ3, τ3 = wu τ1 ms_lastOfHead x2 0 →
        L2_takeParagraphs_tr_23 X τ3 (x2 + 1) x3 x4 (x5 + 1) F) ∧
      (¬ (¬ x5 = (x4 - 1)) → (0 ≤ x2 ∧ x2 < 50) ∧ ((1 : Int) = 0 ∨ (1 : Int) = 1) ∧ ∀ τ4, τ4 = wu τ1 ms_lastOfHead x2 1 →
        L2_takeParagraphs_tr_23 X τ4 (x2 + 1) x3 x4 (x5 + 1) F))) : L2_takeParagraphs_tr_83 X σ x2 x3 x4 x5 s0 s1 F := go_w 23 h
abbrev L2_takeNotes_mt_11 (X : En) (σ : Wd) (x2 x3 : Int) (F : Wd → Prop) : Prop := Go X k2_takeNotes 11 [some (vr o_ms), some (vr o_mt), some (vi x2), some (vi x3)] [] σ (QV F)
abbrev L2_takeNotes_mt_95 (X : En) (σ : Wd) (x2 x3 : Int) (F : Wd → Prop) : Prop := Go X k2_takeNotes 95 [some (vr o_ms), some (vr o_mt), some (vi x2), some (vi x3)] [] σ (QV F)
set_option maxRecDepth 10000 in
theorem e2_takeNotes_mt {X : En} (hX : XV X) {σ : Wd} {F : Wd → Prop} (h :
    (0 ≤ (0 : Int) ∧ (0 : Int) < 51) ∧ ∀ τ1, τ1 = wu σ ms_lastLine0 0 (-1) →
    L2_takeNotes_mt_11 X τ1 0 0 F) : TV X k2_takeNotes [vr o_ms, vr o_mt] σ F := tr_w hX 11 rfl rfl h
set_option maxRecDepth 10000 in
theorem c2_takeNotes_mt_11 {X : En} {σ : Wd} {x2 x3 : Int} {F : Wd → Prop} (h :
    iR x3 ∧ iR (σ ms_lines 0) ∧
    ((σ ms_lines 0) ≤ x3 → F σ) ∧
    (¬ ((σ ms_lines 0) ≤ x3) → iR x3 ∧ iR 50 ∧
      (50 ≤ x3 → F σ) ∧
      (¬ (50 ≤ x3) → (0 ≤ x3 ∧ x3 < 51) ∧ (0 ≤ (x3 + 1) ∧ (x3 + 1) < 51) ∧ ∀ τ1, τ1 = wu σ ms_rows0 (x3 + 1) (σ ms_rows0 x3) →
        (0 ≤ x3 ∧ x3 < 51) ∧ (0 ≤ (x3 + 1) ∧ (x3 + 1) < 51) ∧ ∀ τ2, τ2 = wu τ1 ms_rows1 (x3 + 1) (τ1 ms_rows1 x3) →
        (0 ≤ x3 ∧ x3 < 51) ∧ (0 ≤ (x3 + 1) ∧ (x3 + 1) < 51) ∧ ∀ τ3, τ3 = wu τ2 ms_lastLine0 (x3 + 1) (τ2 ms_lastLine0 x3) →
        (0 ≤ x3 ∧ x3 < 51) ∧ (0 ≤ (x3 + 1) ∧ (x3 + 1) < 51) ∧ ∀ τ4, τ4 = wu τ3 ms_lastRows0 (x3 + 1) (τ3 ms_lastRows0 x3) →
        (0 ≤ x3 ∧ x3 < 51) ∧ (0 ≤ (x3 + 1) ∧ (x3 + 1) < 51) ∧ ∀ τ5, τ5 = wu τ4 ms_marginNotes (x3 + 1) (τ4 ms_marginNotes x3) →
        L2_takeNotes_mt_95 X τ5 x2 x3 F))) : L2_takeNotes_mt_11 X σ x2 x3 F := go_w 59 h
set_option maxRecDepth 10000 in
theorem c2_takeNotes_mt_95 {X : En} {σ : Wd} {x2 x3 : Int} {F : Wd → Prop} (h :
    iR x2 ∧ iR (σ mt_notes 0) ∧
    ((σ mt_notes 0) ≤ x2 → L2_takeNotes_mt_11 X σ x2 (x3 + 1) F) ∧
    (¬ ((σ mt_notes 0) ≤ x2) → (0 ≤ x2 ∧ x2 < 20) ∧ (0 ≤ (σ mt_order x2) ∧ (σ mt_order x2) < 20) ∧ iR (σ mt_noteLine (σ mt_order x2)) ∧ iR x3 ∧
      (¬ (σ mt_noteLine (σ mt_order x2)) = x3 → L2_takeNotes_mt_11 X σ x2 (x3 + 1) F) ∧
      (¬ (¬ (σ mt_noteLine (σ mt_order x2)) = x3) → (0 ≤ x2 ∧ x2 < 20) ∧ TV X k2_takeNote [vr o_ms, vr o_mt, vi (σ mt_order x2), vi x3] σ (fun τ1 =>
        L2_takeNotes_mt_95 X τ1 (x2 + 1) x3 F)))) : L2_takeNotes_mt_95 X σ x2 x3 F := go_w 25 h
abbrev L2_takeNotes_tr_11 (X : En) (σ : Wd) (x2 x3 : Int) (F : Wd → Prop) : Prop := Go X k2_takeNotes 11 [some (vr o_ms), some (vr o_tr), some (vi x2), some (vi x3)] [] σ (QV F)
abbrev L2_takeNotes_tr_95 (X : En) (σ : Wd) (x2 x3 : Int) (F : Wd → Prop) : Prop := Go X k2_takeNotes 95 [some (vr o_ms), some (vr o_tr), some (vi x2), some (vi x3)] [] σ (QV F)
set_option maxRecDepth 10000 in
theorem e2_takeNotes_tr {X : En} (hX : XV X) {σ : Wd} {F : Wd → Prop} (h :
    (0 ≤ (0 : Int) ∧ (0 : Int) < 51) ∧ ∀ τ1, τ1 = wu σ ms_lastLine0 0 (-1) →
    L2_takeNotes_tr_11 X τ1 0 0 F) : TV X k2_takeNotes [vr o_ms, vr o_tr] σ F := tr_w hX 11 rfl rfl h
set_option maxRecDepth 10000 in
theorem c2_takeNotes_tr_11 {X : En} {σ : Wd} {x2 x3 : Int} {F : Wd → Prop} (h :
    iR x3 ∧ iR (σ ms_lines 0) ∧
    ((σ ms_lines 0) ≤ x3 → F σ) ∧
    (¬ ((σ ms_lines 0) ≤ x3) → iR x3 ∧ iR 50 ∧
      (50 ≤ x3 → F σ) ∧
      (¬ (50 ≤ x3) → (0 ≤ x3 ∧ x3 < 51) ∧ (0 ≤ (x3 + 1) ∧ (x3 + 1) < 51) ∧ ∀ τ1, τ1 = wu σ ms_rows0 (x3 + 1) (σ ms_rows0 x3) →
        (0 ≤ x3 ∧ x3 < 51) ∧ (0 ≤ (x3 + 1) ∧ (x3 + 1) < 51) ∧ ∀ τ2, τ2 = wu τ1 ms_rows1 (x3 + 1) (τ1 ms_rows1 x3) →
        (0 ≤ x3 ∧ x3 < 51) ∧ (0 ≤ (x3 + 1) ∧ (x3 + 1) < 51) ∧ ∀ τ3, τ3 = wu τ2 ms_lastLine0 (x3 + 1) (τ2 ms_lastLine0 x3) →
        (0 ≤ x3 ∧ x3 < 51) ∧ (0 ≤ (x3 + 1) ∧ (x3 + 1) < 51) ∧ ∀ τ4, τ4 = wu τ3 ms_lastRows0 (x3 + 1) (τ3 ms_lastRows0 x3) →
        (0 ≤ x3 ∧ x3 < 51) ∧ (0 ≤ (x3 + 1) ∧ (x3 + 1) < 51) ∧ ∀ τ5, τ5 = wu τ4 ms_marginNotes (x3 + 1) (τ4 ms_marginNotes x3) →
        L2_takeNotes_tr_95 X τ5 x2 x3 F))) : L2_takeNotes_tr_11 X σ x2 x3 F := go_w 59 h
set_option maxRecDepth 10000 in
theorem c2_takeNotes_tr_95 {X : En} {σ : Wd} {x2 x3 : Int} {F : Wd → Prop} (h :
    iR x2 ∧ iR (σ tr_notes 0) ∧
    ((σ tr_notes 0) ≤ x2 → L2_takeNotes_tr_11 X σ x2 (x3 + 1) F) ∧
    (¬ ((σ tr_notes 0) ≤ x2) → (0 ≤ x2 ∧ x2 < 20) ∧ (0 ≤ (σ tr_order x2) ∧ (σ tr_order x2) < 20) ∧ iR (σ tr_noteLine (σ tr_order x2)) ∧ iR x3 ∧
      (¬ (σ tr_noteLine (σ tr_order x2)) = x3 → L2_takeNotes_tr_11 X σ x2 (x3 + 1) F) ∧
      (¬ (¬ (σ tr_noteLine (σ tr_order x2)) = x3) → (0 ≤ x2 ∧ x2 < 20) ∧ TV X k2_takeNote [vr o_ms, vr o_tr, vi (σ tr_order x2), vi x3] σ (fun τ1 =>
        L2_takeNotes_tr_95 X τ1 (x2 + 1) x3 F)))) : L2_takeNotes_tr_95 X σ x2 x3 F := go_w 25 h
set_option maxRecDepth 10000 in
theorem e2_takeNote_mt {X : En} (hX : XV X) {σ : Wd} {x2 x3 : Int} {F : Wd → Prop} (h :
    TI X k1_rowsOfNote [vr o_mt, vi x2] σ (fun r1 τ1 =>
    (0 ≤ (x3 + 1) ∧ (x3 + 1) < 51) ∧ (0 ≤ x2 ∧ x2 < 20) ∧ iR (τ1 mt_noteBand x2) ∧
    (¬ (τ1 mt_noteBand x2) = 0 → (0 ≤ x2 ∧ x2 < 20) ∧ iR (τ1 mt_noteBand x2) ∧ iR 1 ∧
      (¬ (τ1 mt_noteBand x2) = 1 → iR (τ1 ms_marginNotes (x3 + 1)) ∧ iR 20 ∧
        (20 ≤ (τ1 ms_marginNotes (x3 + 1)) → F τ1) ∧
        (¬ (20 ≤ (τ1 ms_marginNotes (x3 + 1))) → (0 ≤ (τ1 ms_marginNotes (x3 + 1)) ∧ (τ1 ms_marginNotes (x3 + 1)) < 20) ∧ ∀ τ2, τ2 = wu τ1 ms_marginRows (τ1 ms_marginNotes (x3 + 1)) r1 →
          (0 ≤ (x3 + 1) ∧ (x3 + 1) < 51) ∧ ∀ τ3, τ3 = wu τ2 ms_marginNotes (x3 + 1) ((τ1 ms_marginNotes (x3 + 1)) + 1) →
          F τ3)) ∧
      (¬ (¬ (τ1 mt_noteBand x2) = 1) → (0 ≤ (x3 + 1) ∧ (x3 + 1) < 51) ∧ (0 ≤ (x3 + 1) ∧ (x3 + 1) < 51) ∧ ∀ τ4, τ4 = wu τ1 ms_rows1 (x3 + 1) ((τ1 ms_rows1 (x3 + 1)) + r1) →
        F τ4)) ∧
    (¬ (¬ (τ1 mt_noteBand x2) = 0) → (0 ≤ (x3 + 1) ∧ (x3 + 1) < 51) ∧ (0 ≤ (x3 + 1) ∧ (x3 + 1) < 51) ∧ ∀ τ5, τ5 = wu τ1 ms_rows0 (x3 + 1) ((τ1 ms_rows0 (x3 + 1)) + r1) →
      (0 ≤ (x3 + 1) ∧ (x3 + 1) < 51) ∧ ∀ τ6, τ6 = wu τ5 ms_lastLine0 (x3 + 1) x3 →
      (0 ≤ (x3 + 1) ∧ (x3 + 1) < 51) ∧ ∀ τ7, τ7 = wu τ6 ms_lastRows0 (x3 + 1) r1 →
      F τ7))) : TV X k2_takeNote [vr o_ms, vr o_mt, vi x2, vi x3] σ F := tr_w hX 43 rfl rfl h
set_option maxRecDepth 10000 in
theorem e2_takeNote_tr {X : En} (hX : XV X) {σ : Wd} {x2 x3 : Int} {F : Wd → Prop} (h :
    TI X k1_rowsOfNote [vr o_tr, vi x2] σ (fun r1 τ1 =>
    (0 ≤ (x3 + 1) ∧ (x3 + 1) < 51) ∧ (0 ≤ x2 ∧ x2 < 20) ∧ iR (τ1 tr_noteBand x2) ∧
    (¬ (τ1 tr_noteBand x2) = 0 → (0 ≤ x2 ∧ x2 < 20) ∧ iR (τ1 tr_noteBand x2) ∧ iR 1 ∧
      (¬ (τ1 tr_noteBand x2) = 1 → iR (τ1 ms_marginNotes (x3 + 1)) ∧ iR 20 ∧
        (20 ≤ (τ1 ms_marginNotes (x3 + 1)) → F τ1) ∧
        (¬ (20 ≤ (τ1 ms_marginNotes (x3 + 1))) → (0 ≤ (τ1 ms_marginNotes (x3 + 1)) ∧ (τ1 ms_marginNotes (x3 + 1)) < 20) ∧ ∀ τ2, τ2 = wu τ1 ms_marginRows (τ1 ms_marginNotes (x3 + 1)) r1 →
          (0 ≤ (x3 + 1) ∧ (x3 + 1) < 51) ∧ ∀ τ3, τ3 = wu τ2 ms_marginNotes (x3 + 1) ((τ1 ms_marginNotes (x3 + 1)) + 1) →
          F τ3)) ∧
      (¬ (¬ (τ1 tr_noteBand x2) = 1) → (0 ≤ (x3 + 1) ∧ (x3 + 1) < 51) ∧ (0 ≤ (x3 + 1) ∧ (x3 + 1) < 51) ∧ ∀ τ4, τ4 = wu τ1 ms_rows1 (x3 + 1) ((τ1 ms_rows1 (x3 + 1)) + r1) →
        F τ4)) ∧
    (¬ (¬ (τ1 tr_noteBand x2) = 0) → (0 ≤ (x3 + 1) ∧ (x3 + 1) < 51) ∧ (0 ≤ (x3 + 1) ∧ (x3 + 1) < 51) ∧ ∀ τ5, τ5 = wu τ1 ms_rows0 (x3 + 1) ((τ1 ms_rows0 (x3 + 1)) + r1) →
      (0 ≤ (x3 + 1) ∧ (x3 + 1) < 51) ∧ ∀ τ6, τ6 = wu τ5 ms_lastLine0 (x3 + 1) x3 →
      (0 ≤ (x3 + 1) ∧ (x3 + 1) < 51) ∧ ∀ τ7, τ7 = wu τ6 ms_lastRows0 (x3 + 1) r1 →
      F τ7))) : TV X k2_takeNote [vr o_ms, vr o_tr, vi x2, vi x3] σ F := tr_w hX 43 rfl rfl h
abbrev L2_takeFigures_mt_4 (X : En) (σ : Wd) (x2 x3 : Int) (F : Wd → Prop) : Prop := Go X k2_takeFigures 4 [some (vr o_ms), some (vr o_mt), some (vi x2), some (vi x3)] [] σ (QV F)
abbrev L2_takeFigures_mt_18 (X : En) (σ : Wd) (x2 x3 : Int) (F : Wd → Prop) : Prop := Go X k2_takeFigures 18 [some (vr o_ms), some (vr o_mt), some (vi x2), some (vi x3)] [] σ (QV F)
set_option maxRecDepth 10000 in
theorem e2_takeFigures_mt {X : En} (hX : XV X) {σ : Wd} {F : Wd → Prop} (h :
    L2_takeFigures_mt_4 X σ 0 0 F) : TV X k2_takeFigures [vr o_ms, vr o_mt] σ F := tr_w hX 6 rfl rfl h
set_option maxRecDepth 10000 in
theorem c2_takeFigures_mt_4 {X : En} {σ : Wd} {x2 x3 : Int} {F : Wd → Prop} (h :
    iR x3 ∧ iR (σ ms_lines 0) ∧
    ((σ ms_lines 0) ≤ x3 → F σ) ∧
    (¬ ((σ ms_lines 0) ≤ x3) → iR x3 ∧ iR 50 ∧
      (50 ≤ x3 → F σ) ∧
      (¬ (50 ≤ x3) → L2_takeFigures_mt_18 X σ x2 x3 F))) : L2_takeFigures_mt_4 X σ x2 x3 F := go_w 9 h
set_option maxRecDepth 10000 in
theorem c2_takeFigures_mt_18 {X : En} {σ : Wd} {x2 x3 : Int} {F : Wd → Prop} (h :
    iR x2 ∧ iR (σ mt_figures 0) ∧
    ((σ mt_figures 0) ≤ x2 → (0 ≤ (x3 + 1) ∧ (x3 + 1) < 51) ∧ ∀ τ1, τ1 = wu σ ms_figures (x3 + 1) x2 →
      L2_takeFigures_mt_4 X τ1 x2 (x3 + 1) F) ∧
    (¬ ((σ mt_figures 0) ≤ x2) → (0 ≤ x2 ∧ x2 < 4) ∧ iR (σ mt_figureLine x2) ∧ iR x3 ∧
      (x3 < (σ mt_figureLine x2) → (0 ≤ (x3 + 1) ∧ (x3 + 1) < 51) ∧ ∀ τ2, τ2 = wu σ ms_figures (x3 + 1) x2 →
        L2_takeFigures_mt_4 X τ2 x2 (x3 + 1) F) ∧
      (¬ (x3 < (σ mt_figureLine x2)) → (0 ≤ x2 ∧ x2 < 5) ∧ (0 ≤ x2 ∧ x2 < 4) ∧ (0 ≤ (x2 + 1) ∧ (x2 + 1) < 5) ∧ ∀ τ3, τ3 = wu σ ms_figureRows (x2 + 1) ((σ ms_figureRows x2) + (σ mt_figureRows x2)) →
        L2_takeFigures_mt_18 X τ3 (x2 + 1) x3 F))) : L2_takeFigures_mt_18 X σ x2 x3 F := go_w 29 h
abbrev L2_takeFigures_tr_4 (X : En) (σ : Wd) (x2 x3 : Int) (F : Wd → Prop) : Prop := Go X k2_takeFigures 4 [some (vr o_ms), some (vr o_tr), some (vi x2), some (vi x3)] [] σ (QV F)
abbrev L2_takeFigures_tr_18 (X : En) (σ : Wd) (x2 x3 : Int) (F : Wd → Prop) : Prop := Go X k2_takeFigures 18 [some (vr o_ms), some (vr o_tr), some (vi x2), some (vi x3)] [] σ (QV F)
set_option maxRecDepth 10000 in
theorem e2_takeFigures_tr {X : En} (hX : XV X) {σ : Wd} {F : Wd → Prop} (h :
    L2_takeFigures_tr_4 X σ 0 0 F) : TV X k2_takeFigures [vr o_ms, vr o_tr] σ F := tr_w hX 6 rfl rfl h
set_option maxRecDepth 10000 in
theorem c2_takeFigures_tr_4 {X : En} {σ : Wd} {x2 x3 : Int} {F : Wd → Prop} (h :
    iR x3 ∧ iR (σ ms_lines 0) ∧
    ((σ ms_lines 0) ≤ x3 → F σ) ∧
    (¬ ((σ ms_lines 0) ≤ x3) → iR x3 ∧ iR 50 ∧
      (50 ≤ x3 → F σ) ∧
      (¬ (50 ≤ x3) → L2_takeFigures_tr_18 X σ x2 x3 F))) : L2_takeFigures_tr_4 X σ x2 x3 F := go_w 9 h
set_option maxRecDepth 10000 in
theorem c2_takeFigures_tr_18 {X : En} {σ : Wd} {x2 x3 : Int} {F : Wd → Prop} (h :
    iR x2 ∧ iR (σ tr_figures 0) ∧
    ((σ tr_figures 0) ≤ x2 → (0 ≤ (x3 + 1) ∧ (x3 + 1) < 51) ∧ ∀ τ1, τ1 = wu σ ms_figures (x3 + 1) x2 →
      L2_takeFigures_tr_4 X τ1 x2 (x3 + 1) F) ∧
    (¬ ((σ tr_figures 0) ≤ x2) → (0 ≤ x2 ∧ x2 < 4) ∧ iR (σ tr_figureLine x2) ∧ iR x3 ∧
      (x3 < (σ tr_figureLine x2) → (0 ≤ (x3 + 1) ∧ (x3 + 1) < 51) ∧ ∀ τ2, τ2 = wu σ ms_figures (x3 + 1) x2 →
        L2_takeFigures_tr_4 X τ2 x2 (x3 + 1) F) ∧
      (¬ (x3 < (σ tr_figureLine x2)) → (0 ≤ x2 ∧ x2 < 5) ∧ (0 ≤ x2 ∧ x2 < 4) ∧ (0 ≤ (x2 + 1) ∧ (x2 + 1) < 5) ∧ ∀ τ3, τ3 = wu σ ms_figureRows (x2 + 1) ((σ ms_figureRows x2) + (σ tr_figureRows x2)) →
        L2_takeFigures_tr_18 X τ3 (x2 + 1) x3 F))) : L2_takeFigures_tr_18 X σ x2 x3 F := go_w 29 h
abbrev L2_layMargin_8 (X : En) (σ : Wd) (x1 x2 x3 x4 x5 : Int) (F : Wd → Prop) : Prop := Go X k2_layMargin 8 [some (vr o_ms), some (vi x1), some (vi x2), some (vi x3), some (vi x4), some (vi x5), none, none] [] σ (QV F)
abbrev L2_layMargin_30 (X : En) (σ : Wd) (x1 x2 x3 x4 x5 x6 : Int) (F : Wd → Prop) : Prop := Go X k2_layMargin 30 [some (vr o_ms), some (vi x1), some (vi x2), some (vi x3), some (vi x4), some (vi x5), some (vi x6), none] [] σ (QV F)
set_option maxRecDepth 10000 in
theorem e2_layMargin {X : En} (hX : XV X) {σ : Wd} {x1 x2 : Int} {F : Wd → Prop} (h :
    L2_layMargin_8 X σ x1 x2 0 0 x1 F) : TV X k2_layMargin [vr o_ms, vi x1, vi x2] σ F := tr_w hX 8 rfl rfl h
set_option maxRecDepth 10000 in
theorem c2_layMargin_8 {X : En} {σ : Wd} {x1 x2 x3 x4 x5 : Int} {F : Wd → Prop} (h :
    iR x5 ∧ iR x2 ∧
    (x2 ≤ x5 → F σ) ∧
    (¬ (x2 ≤ x5) → iR x5 ∧ iR 50 ∧
      (50 ≤ x5 → F σ) ∧
      (¬ (50 ≤ x5) → (0 ≤ x5 ∧ x5 < 51) ∧ L2_layMargin_30 X σ x1 x2 x3 x4 x5 (σ ms_marginNotes x5) F))) : L2_layMargin_8 X σ x1 x2 x3 x4 x5 F := go_w 13 h
set_option maxRecDepth 10000 in
theorem c2_layMargin_30 {X : En} {σ : Wd} {x1 x2 x3 x4 x5 x6 : Int} {F : Wd → Prop} (h :
    (0 ≤ (x5 + 1) ∧ (x5 + 1) < 51) ∧ iR x6 ∧ iR (σ ms_marginNotes (x5 + 1)) ∧
    ((σ ms_marginNotes (x5 + 1)) ≤ x6 → (0 ≤ (x5 + 1) ∧ (x5 + 1) < 51) ∧ ∀ τ1, τ1 = wu σ ms_marginEnd (x5 + 1) x3 →
      (0 ≤ (x5 + 1) ∧ (x5 + 1) < 51) ∧ ∀ τ2, τ2 = wu τ1 ms_marginMoved (x5 + 1) x4 →
      L2_layMargin_8 X τ2 x1 x2 x3 x4 (x5 + 1) F) ∧
    (¬ ((σ ms_marginNotes (x5 + 1)) ≤ x6) → iR (x5 - x1) ∧ iR x3 ∧ (0 ≤ x6 ∧ x6 < 20) ∧ L2_layMargin_30 X σ x1 x2 ((max (x5 - x1) x3) + (σ ms_marginRows x6)) (x4 + ((max (x5 - x1) x3) - (x5 - x1))) x5 (x6 + 1) F)) : L2_layMargin_30 X σ x1 x2 x3 x4 x5 x6 F := go_w 33 h
set_option maxRecDepth 10000 in
theorem e2_allRows {X : En} (hX : XV X) {σ : Wd} {F : Int → Wd → Prop} (h :
    (0 ≤ (σ ms_lines 0) ∧ (σ ms_lines 0) < 51) ∧ (0 ≤ (σ ms_lines 0) ∧ (σ ms_lines 0) < 51) ∧ (0 ≤ (σ ms_lines 0) ∧ (σ ms_lines 0) < 51) ∧ (0 ≤ (σ ms_figures (σ ms_lines 0)) ∧ (σ ms_figures (σ ms_lines 0)) < 5) ∧ F ((((σ ms_lines 0) + (σ ms_rows0 (σ ms_lines 0))) + (σ ms_rows1 (σ ms_lines 0))) + (σ ms_figureRows (σ ms_figures (σ ms_lines 0)))) σ) : TI X k2_allRows [vr o_ms] σ F := tr_w hX 25 rfl rfl h
set_option maxRecDepth 10000 in
theorem e2_lastRowsOfPage {X : En} (hX : XV X) {σ : Wd} {x1 x2 : Int} {F : Int → Wd → Prop} (h :
    (0 ≤ x2 ∧ x2 < 51) ∧ iR (σ ms_lastLine0 x2) ∧ iR x1 ∧
    ((σ ms_lastLine0 x2) < x1 → F 0 σ) ∧
    (¬ ((σ ms_lastLine0 x2) < x1) → (0 ≤ x2 ∧ x2 < 51) ∧ F (σ ms_lastRows0 x2) σ)) : TI X k2_lastRowsOfPage [vr o_ms, vi x1, vi x2] σ F := tr_w hX 13 rfl rfl h
