set_option maxRecDepth 10000 in
theorem e5_feed {X : En} (hX : XV X) {σ : Wd} {x1 x2 : Int} {F : Int → Wd → Prop} (h :
    iR x1 ∧ iR 1 ∧
    (x1 < 1 → F (-1002) σ) ∧
    (¬ (x1 < 1) → iR x1 ∧ iR 8 ∧
      (x1 ≤ 8 → TI X k4_append [vr o_rt, vi x1, vl x2] σ (fun r1 τ1 =>
        iR r1 ∧
        (r1 = 0 → F (-1004) τ1) ∧
        (¬ (r1 = 0) → F (τ1 rt_length 0) τ1))) ∧
      (¬ (x1 ≤ 8) → F (-1002) σ))) : TI X k5_feed [vr o_nb, vi x1, vl x2] σ F := tr_w hX 18 rfl rfl h
set_option maxRecDepth 10000 in
theorem e5_read {X : En} (hX : XV X) {σ : Wd} {F : Int → Wd → Prop} (h :
    TI X k4_parse [vr o_rt, vr o_nb_rules] σ (fun r1 τ1 =>
    iR r1 ∧
    (r1 < 0 → F r1 τ1) ∧
    (¬ (r1 < 0) → ((1 : Int) = 0 ∨ (1 : Int) = 1) ∧ ∀ τ2, τ2 = wu τ1 nb_stale 0 1 →
      F r1 τ2))) : TI X k5_read [vr o_nb] σ F := tr_w hX 14 rfl rfl h
set_option maxRecDepth 10000 in
theorem e5_fault {X : En} (hX : XV X) {σ : Wd} {F : Int → Wd → Prop} (h :
    F (σ rt_faultPlace 0) σ) : TI X k5_fault [vr o_nb] σ F := tr_w hX 5 rfl rfl h
set_option maxRecDepth 10000 in
theorem e5_rule {X : En} (hX : XV X) {σ : Wd} {x1 : Int} {F : Int → Wd → Prop} (h :
    iR x1 ∧
    (x1 < 0 → F (-1002) σ) ∧
    (¬ (x1 < 0) → iR x1 ∧ iR 9 ∧
      (x1 < 9 → (0 ≤ x1 ∧ x1 < 9) ∧ F (σ nb_rules x1) σ) ∧
      (¬ (x1 < 9) → F (-1002) σ))) : TI X k5_rule [vr o_nb, vi x1] σ F := tr_w hX 11 rfl rfl h
set_option maxRecDepth 10000 in
theorem e5_paragraph {X : En} (hX : XV X) {σ : Wd} {x1 x2 : Int} {F : Int → Wd → Prop} (h :
    iR x1 ∧
    (x1 < 0 → F (-1002) σ) ∧
    (¬ (x1 < 0) → iR x1 ∧ iR 1 ∧
      (1 < x1 → F (-1002) σ) ∧
      (¬ (1 < x1) → TI X k5_isParagraphSize [vi x2] σ (fun r1 τ1 =>
        iR r1 ∧
        (¬ r1 = 0 → iR (τ1 mt_paragraphs 0) ∧ iR 16 ∧
          (16 ≤ (τ1 mt_paragraphs 0) → F (-1004) τ1) ∧
          (¬ (16 ≤ (τ1 mt_paragraphs 0)) → iR ((τ1 mt_lines 0) + x2) ∧ iR 50 ∧
            (((τ1 mt_lines 0) + x2) ≤ 50 → ((1 : Int) = 0 ∨ (1 : Int) = 1) ∧ ∀ τ2, τ2 = wu τ1 nb_stale 0 1 →
              TI X k1_addParagraph [vr o_mt, vi x1, vi x2] τ2 (fun r3 τ3 =>
              F r3 τ3)) ∧
            (¬ (((τ1 mt_lines 0) + x2) ≤ 50) → F (-1004) τ1))) ∧
        (¬ (¬ r1 = 0) → F (-1002) τ1))))) : TI X k5_paragraph [vr o_nb, vi x1, vi x2] σ F := tr_w hX 30 rfl rfl h
set_option maxRecDepth 10000 in
theorem e5_change {X : En} (hX : XV X) {σ : Wd} {x1 x2 : Int} {F : Int → Wd → Prop} (h :
    TI X k1_hasParagraph [vr o_mt, vi x1] σ (fun r1 τ1 =>
    iR r1 ∧
    (¬ r1 = 0 → TI X k5_isParagraphSize [vi x2] τ1 (fun r2 τ2 =>
      iR r2 ∧
      (¬ r2 = 0 → (0 ≤ x1 ∧ x1 < 16) ∧ iR (((τ2 mt_lines 0) - (τ2 mt_sizes x1)) + x2) ∧ iR 50 ∧
        ((((τ2 mt_lines 0) - (τ2 mt_sizes x1)) + x2) ≤ 50 → ((1 : Int) = 0 ∨ (1 : Int) = 1) ∧ ∀ τ3, τ3 = wu τ2 nb_stale 0 1 →
          TV X k1_resize [vr o_mt, vi x1, vi x2] τ3 (fun τ4 =>
          F (τ2 mt_sizes x1) τ4)) ∧
        (¬ ((((τ2 mt_lines 0) - (τ2 mt_sizes x1)) + x2) ≤ 50) → F (-1004) τ2)) ∧
      (¬ (¬ r2 = 0) → F (-1002) τ2))) ∧
    (¬ (¬ r1 = 0) → F (-1001) τ1))) : TI X k5_change [vr o_nb, vi x1, vi x2] σ F := tr_w hX 34 rfl rfl h
set_option maxRecDepth 10000 in
theorem e5_note {X : En} (hX : XV X) {σ : Wd} {x1 x2 x3 : Int} {F : Int → Wd → Prop} (h :
    TI X k1_hasLine [vr o_mt, vi x1] σ (fun r1 τ1 =>
    iR r1 ∧
    (¬ r1 = 0 → iR x2 ∧
      (x2 < 0 → F (-1002) τ1) ∧
      (¬ (x2 < 0) → iR x2 ∧ iR 2 ∧
        (2 < x2 → F (-1002) τ1) ∧
        (¬ (2 < x2) → iR x3 ∧ iR 1 ∧
          (x3 < 1 → F (-1002) τ1) ∧
          (¬ (x3 < 1) → iR x3 ∧ iR 9 ∧
            (x3 ≤ 9 → iR (τ1 mt_notes 0) ∧ iR 20 ∧
              ((τ1 mt_notes 0) < 20 → ((1 : Int) = 0 ∨ (1 : Int) = 1) ∧ ∀ τ2, τ2 = wu τ1 nb_stale 0 1 →
                TI X k1_addNote [vr o_mt, vi x1, vi x2, vi x3] τ2 (fun r3 τ3 =>
                F r3 τ3)) ∧
              (¬ ((τ1 mt_notes 0) < 20) → F (-1004) τ1)) ∧
            (¬ (x3 ≤ 9) → F (-1002) τ1))))) ∧
    (¬ (¬ r1 = 0) → F (-1001) τ1))) : TI X k5_note [vr o_nb, vi x1, vi x2, vi x3] σ F := tr_w hX 32 rfl rfl h
abbrev L5_refer_36 (X : En) (σ : Wd) (x1 x2 : Int) (F : Int → Wd → Prop) : Prop := Go X k5_refer 36 [some (vr o_nb), some (vi x1), some (vi x2), none] [] σ (QI F)
set_option maxRecDepth 10000 in
theorem e5_refer {X : En} (hX : XV X) {σ : Wd} {x1 x2 : Int} {F : Int → Wd → Prop} (h :
    TI X k1_hasNote [vr o_mt, vi x1] σ (fun r1 τ1 =>
    iR r1 ∧
    (r1 = 0 → F (-1001) τ1) ∧
    (¬ (r1 = 0) → iR x1 ∧ iR x2 ∧
      (x1 = x2 → F (-1001) τ1) ∧
      (¬ (x1 = x2) → iR x2 ∧ iR (-1) ∧
        (x2 = (-1) → L5_refer_36 X τ1 x1 x2 F) ∧
        (¬ (x2 = (-1)) → TI X k1_hasNote [vr o_mt, vi x2] τ1 (fun r2 τ2 =>
          iR r2 ∧
          (¬ r2 = 0 → L5_refer_36 X τ2 x1 x2 F) ∧
          (¬ (¬ r2 = 0) → F (-1001) τ2))))))) : TI X k5_refer [vr o_nb, vi x1, vi x2] σ F := tr_w hX 19 rfl rfl h
set_option maxRecDepth 10000 in
theorem c5_refer_36 {X : En} {σ : Wd} {x1 x2 : Int} {F : Int → Wd → Prop} (h :
    (0 ≤ x1 ∧ x1 < 20) ∧ (0 ≤ x1 ∧ x1 < 20) ∧ ∀ τ1, τ1 = wu σ mt_noteTo x1 x2 →
    (0 ≤ x1 ∧ x1 < 20) ∧ iR (τ1 mt_noteGrown x1) ∧
    ((τ1 mt_noteGrown x1) = 0 → F (σ mt_noteTo x1) τ1) ∧
    (¬ ((τ1 mt_noteGrown x1) = 0) → (0 ≤ x1 ∧ x1 < 20) ∧ ((0 : Int) = 0 ∨ (0 : Int) = 1) ∧ ∀ τ2, τ2 = wu τ1 mt_noteGrown x1 0 →
      ((1 : Int) = 0 ∨ (1 : Int) = 1) ∧ ∀ τ3, τ3 = wu τ2 nb_stale 0 1 →
      F (σ mt_noteTo x1) τ3)) : L5_refer_36 X σ x1 x2 F := go_w 30 h
set_option maxRecDepth 10000 in
theorem e5_figure {X : En} (hX : XV X) {σ : Wd} {x1 x2 : Int} {F : Int → Wd → Prop} (h :
    TI X k1_hasLine [vr o_mt, vi x1] σ (fun r1 τ1 =>
    iR r1 ∧
    (¬ r1 = 0 → iR x2 ∧ iR 1 ∧
      (x2 < 1 → F (-1002) τ1) ∧
      (¬ (x2 < 1) → iR x2 ∧ iR 20 ∧
        (x2 ≤ 20 → TI X k1_lineOfLastFigure [vr o_mt] τ1 (fun r2 τ2 =>
          iR x1 ∧ iR r2 ∧
          (r2 ≤ x1 → iR (τ2 mt_figures 0) ∧ iR 4 ∧
            ((τ2 mt_figures 0) < 4 → ((1 : Int) = 0 ∨ (1 : Int) = 1) ∧ ∀ τ3, τ3 = wu τ2 nb_stale 0 1 →
              TI X k1_addFigure [vr o_mt, vi x1, vi x2] τ3 (fun r4 τ4 =>
              F r4 τ4)) ∧
            (¬ ((τ2 mt_figures 0) < 4) → F (-1004) τ2)) ∧
          (¬ (r2 ≤ x1) → F (-1003) τ2))) ∧
        (¬ (x2 ≤ 20) → F (-1002) τ1))) ∧
    (¬ (¬ r1 = 0) → F (-1001) τ1))) : TI X k5_figure [vr o_nb, vi x1, vi x2] σ F := tr_w hX 31 rfl rfl h
set_option maxRecDepth 10000 in
theorem e5_count {X : En} (hX : XV X) {σ : Wd} {x1 : Int} {F : Int → Wd → Prop} (h :
    iR x1 ∧
    ((x1 = 0 → F (σ mt_paragraphs 0) σ) ∧
    (x1 = 1 → F (σ mt_lines 0) σ) ∧
    (x1 = 2 → F (σ mt_notes 0) σ) ∧
    (x1 = 3 → F (σ mt_figures 0) σ) ∧
    (x1 = 4 → F (σ rt_length 0) σ) ∧
    (x1 = 5 → TI X k1_countGrown [vr o_mt] σ (fun r1 τ1 =>
      F r1 τ1)) ∧
    True) ∧
    (x1 < 0 ∨ 6 ≤ x1 → F (-1002) σ)) : TI X k5_count [vr o_nb, vi x1] σ F := tr_w hX 7 rfl rfl h
set_option maxRecDepth 10000 in
theorem e5_line {X : En} (hX : XV X) {σ : Wd} {x1 x2 : Int} {F : Int → Wd → Prop} (h :
    TI X k1_hasLine [vr o_mt, vi x1] σ (fun r1 τ1 =>
    iR r1 ∧
    (¬ r1 = 0 → iR x2 ∧
      ((x2 = 0 → TI X k1_paragraphOf [vr o_mt, vi x1] τ1 (fun r2 τ2 =>
        F r2 τ2)) ∧
      (x2 = 1 → TI X k1_paragraphOf [vr o_mt, vi x1] τ1 (fun r3 τ3 =>
        TI X k1_firstLineOf [vr o_mt, vi r3] τ3 (fun r4 τ4 =>
        F (x1 - r4) τ4))) ∧
      (x2 = 2 → TI X k1_countNotesIn [vr o_mt, vi x1] τ1 (fun r5 τ5 =>
        F r5 τ5)) ∧
      (x2 = 3 → TI X k1_countFiguresIn [vr o_mt, vi x1] τ1 (fun r6 τ6 =>
        F r6 τ6)) ∧
      True) ∧
      (x2 < 0 ∨ 4 ≤ x2 → F (-1002) τ1)) ∧
    (¬ (¬ r1 = 0) → F (-1001) τ1))) : TI X k5_line [vr o_nb, vi x1, vi x2] σ F := tr_w hX 18 rfl rfl h
set_option maxRecDepth 10000 in
theorem e5_told {X : En} (hX : XV X) {σ : Wd} {x1 x2 : Int} {F : Int → Wd → Prop} (h :
    TI X k1_hasNote [vr o_mt, vi x1] σ (fun r1 τ1 =>
    iR r1 ∧
    (¬ r1 = 0 → iR x2 ∧
      ((x2 = 0 → (0 ≤ x1 ∧ x1 < 20) ∧ F (τ1 mt_noteLine x1) τ1) ∧
      (x2 = 1 → (0 ≤ x1 ∧ x1 < 20) ∧ F (τ1 mt_noteBand x1) τ1) ∧
      (x2 = 2 → TI X k1_rowsOfNote [vr o_mt, vi x1] τ1 (fun r2 τ2 =>
        F r2 τ2)) ∧
      (x2 = 3 → (0 ≤ x1 ∧ x1 < 20) ∧ F (τ1 mt_noteTo x1) τ1) ∧
      (x2 = 4 → (0 ≤ x1 ∧ x1 < 20) ∧ iR (τ1 mt_noteGrown x1) ∧
        ((τ1 mt_noteGrown x1) = 0 → F 0 τ1) ∧
        (¬ ((τ1 mt_noteGrown x1) = 0) → F 1 τ1)) ∧
      True) ∧
      (x2 < 0 ∨ 5 ≤ x2 → F (-1002) τ1)) ∧
    (¬ (¬ r1 = 0) → F (-1001) τ1))) : TI X k5_told [vr o_nb, vi x1, vi x2] σ F := tr_w hX 17 rfl rfl h
set_option maxRecDepth 10000 in
theorem e5_pages {X : En} (hX : XV X) {σ : Wd} {F : Int → Wd → Prop} (h :
    TV X k5_breakAnew [vr o_nb] σ (fun τ1 =>
    F (τ1 pt_pages 0) τ1)) : TI X k5_pages [vr o_nb] σ F := tr_w hX 7 rfl rfl h
set_option maxRecDepth 10000 in
theorem e5_cost {X : En} (hX : XV X) {σ : Wd} {F : Int → Wd → Prop} (h :
    TV X k5_breakAnew [vr o_nb] σ (fun τ1 =>
    F (τ1 pt_total 0) τ1)) : TI X k5_cost [vr o_nb] σ F := tr_w hX 7 rfl rfl h
set_option maxRecDepth 10000 in
theorem e5_page {X : En} (hX : XV X) {σ : Wd} {x1 x2 : Int} {F : Int → Wd → Prop} (h :
    TV X k5_breakAnew [vr o_nb] σ (fun τ1 =>
    iR x1 ∧
    (x1 < 0 → F (-1001) τ1) ∧
    (¬ (x1 < 0) → iR x1 ∧ iR (τ1 pt_pages 0) ∧
      (x1 < (τ1 pt_pages 0) → iR x2 ∧
        (x2 < 0 → F (-1002) τ1) ∧
        (¬ (x2 < 0) → iR x2 ∧ iR 10 ∧
          (x2 < 10 → TI X k3_fact [vr o_pt, vi x1, vi x2] τ1 (fun r2 τ2 =>
            F r2 τ2)) ∧
          (¬ (x2 < 10) → F (-1002) τ1))) ∧
      (¬ (x1 < (τ1 pt_pages 0)) → F (-1001) τ1)))) : TI X k5_page [vr o_nb, vi x1, vi x2] σ F := tr_w hX 21 rfl rfl h
set_option maxRecDepth 10000 in
theorem e5_where {X : En} (hX : XV X) {σ : Wd} {x1 x2 : Int} {F : Int → Wd → Prop} (h :
    iR x2 ∧
    (x2 < 0 → F (-1002) σ) ∧
    (¬ (x2 < 0) → iR x2 ∧ iR 4 ∧
      (x2 ≤ 4 → TI X k5_isThere [vr o_nb, vi x1, vi x2] σ (fun r1 τ1 =>
        iR r1 ∧
        (¬ r1 = 0 → TV X k5_breakAnew [vr o_nb] τ1 (fun τ2 =>
          iR (τ2 pt_pages 0) ∧ iR (-1) ∧
          (¬ (τ2 pt_pages 0) = (-1) → iR x2 ∧
            ((x2 = 0 → TI X k3_pageOfLine [vr o_pt, vi x1] τ2 (fun r3 τ3 =>
              F r3 τ3)) ∧
            (x2 = 1 → (0 ≤ x1 ∧ x1 < 20) ∧ TI X k3_pageOfLine [vr o_pt, vi (τ2 mt_noteLine x1)] τ2 (fun r4 τ4 =>
              F r4 τ4)) ∧
            (x2 = 2 → TI X k5_pageOfLastRow [vr o_nb, vi x1] τ2 (fun r5 τ5 =>
              F r5 τ5)) ∧
            (x2 = 3 → TI X k3_pageOfFigure [vr o_pt, vi x1] τ2 (fun r6 τ6 =>
              F r6 τ6)) ∧
            True) ∧
            (x2 < 0 ∨ 4 ≤ x2 → TI X k5_rowInMargin [vr o_nb, vi x1] τ2 (fun r7 τ7 =>
              F r7 τ7))) ∧
          (¬ (¬ (τ2 pt_pages 0) = (-1)) → F (-1003) τ2))) ∧
        (¬ (¬ r1 = 0) → F (-1001) τ1))) ∧
      (¬ (x2 ≤ 4) → F (-1002) σ))) : TI X k5_where [vr o_nb, vi x1, vi x2] σ F := tr_w hX 29 rfl rfl h
set_option maxRecDepth 10000 in
theorem e5_mark {X : En} (hX : XV X) {σ : Wd} {x1 x2 : Int} {F : Int → Wd → Prop} (h :
    TI X k1_hasNote [vr o_mt, vi x1] σ (fun r1 τ1 =>
    iR r1 ∧
    (¬ r1 = 0 → iR x2 ∧
      (¬ x2 = 0 → TV X k5_breakAnew [vr o_nb] τ1 (fun τ2 =>
        iR (τ2 pt_pages 0) ∧ iR (-1) ∧
        (¬ (τ2 pt_pages 0) = (-1) → (0 ≤ x1 ∧ x1 < 20) ∧ TI X k3_pageOfLine [vr o_pt, vi (τ2 mt_noteLine x1)] τ2 (fun r3 τ3 =>
          TI X k3_fact [vr o_pt, vi r3, vi 0] τ3 (fun r4 τ4 =>
          TI X k1_placeInBand [vr o_mt, vi x1, vi r4] τ4 (fun r5 τ5 =>
          F r5 τ5)))) ∧
        (¬ (¬ (τ2 pt_pages 0) = (-1)) → F (-1003) τ2))) ∧
      (¬ (¬ x2 = 0) → TI X k1_placeInBand [vr o_mt, vi x1, vi 0] τ1 (fun r6 τ6 =>
        F r6 τ6))) ∧
    (¬ (¬ r1 = 0) → F (-1001) τ1))) : TI X k5_mark [vr o_nb, vi x1, vi x2] σ F := tr_w hX 32 rfl rfl h
abbrev L5_settle_32 (X : En) (σ : Wd) (x1 x2 : Int) (F : Int → Wd → Prop) : Prop := Go X k5_settle 32 [some (vr o_nb), some (vi x1), some (vi x2)] [] σ (QI F)
set_option maxRecDepth 10000 in
theorem e5_settle {X : En} (hX : XV X) {σ : Wd} {x1 : Int} {F : Int → Wd → Prop} (h :
    iR x1 ∧ iR 1 ∧
    (x1 < 1 → F (-1002) σ) ∧
    (¬ (x1 < 1) → iR x1 ∧ iR 9 ∧
      (x1 ≤ 9 → TI X k1_shrinkAll [vr o_mt] σ (fun r1 τ1 =>
        iR r1 ∧
        (r1 = 0 → L5_settle_32 X τ1 x1 0 F) ∧
        (¬ (r1 = 0) → ((1 : Int) = 0 ∨ (1 : Int) = 1) ∧ ∀ τ2, τ2 = wu τ1 nb_stale 0 1 →
          L5_settle_32 X τ2 x1 0 F))) ∧
      (¬ (x1 ≤ 9) → F (-1002) σ))) : TI X k5_settle [vr o_nb, vi x1] σ F := tr_w hX 17 rfl rfl h
set_option maxRecDepth 10000 in
theorem c5_settle_32 {X : En} {σ : Wd} {x1 x2 : Int} {F : Int → Wd → Prop} (h :
    iR x2 ∧ iR x1 ∧
    (x1 ≤ x2 → F (-1) σ) ∧
    (¬ (x1 ≤ x2) → TV X k5_breakAnew [vr o_nb] σ (fun τ1 =>
      iR (τ1 pt_pages 0) ∧ iR (-1) ∧
      (¬ (τ1 pt_pages 0) = (-1) → TI X k5_growByPages [vr o_nb] τ1 (fun r2 τ2 =>
        iR r2 ∧
        (¬ r2 = 0 → ((1 : Int) = 0 ∨ (1 : Int) = 1) ∧ ∀ τ3, τ3 = wu τ2 nb_stale 0 1 →
          L5_settle_32 X τ3 x1 (x2 + 1) F) ∧
        (¬ (¬ r2 = 0) → F x2 τ2))) ∧
      (¬ (¬ (τ1 pt_pages 0) = (-1)) → F (-2) τ1)))) : L5_settle_32 X σ x1 x2 F := go_w 20 h
abbrev L5_least_36 (X : En) (σ : Wd) (x1 x2 : Int) (F : Int → Wd → Prop) : Prop := Go X k5_least 36 [some (vr o_nb), some (vi x1), some (vi x2), none] [] σ (QI F)
abbrev L5_least_66 (X : En) (σ : Wd) (x1 x2 s0 : Int) (F : Int → Wd → Prop) : Prop := Go X k5_least 66 [some (vr o_nb), some (vi x1), some (vi x2), none] [vi s0] σ (QI F)
set_option maxRecDepth 10000 in
theorem e5_least {X : En} (hX : XV X) {σ : Wd} {x1 : Int} {F : Int → Wd → Prop} (h :
    iR x1 ∧ iR 1 ∧
    (x1 < 1 → F (-1002) σ) ∧
    (¬ (x1 < 1) → iR x1 ∧ iR 50 ∧
      (x1 ≤ 50 → TV X k0_take [vr o_bk, vr o_mt, vr o_nb_rules] σ (fun τ1 =>
        (0 ≤ (0 : Int) ∧ (0 : Int) < 9) ∧ L5_least_36 X τ1 x1 (roB.getD (0 : Int).toNat 0) F)) ∧
      (¬ (x1 ≤ 50) → F (-1002) σ))) : TI X k5_least [vr o_nb, vi x1] σ F := tr_w hX 19 rfl rfl h
set_option maxRecDepth 10000 in
theorem c5_least_36 {X : En} {σ : Wd} {x1 x2 : Int} {F : Int → Wd → Prop} (h :
    (0 ≤ (0 : Int) ∧ (0 : Int) < 9) ∧ iR x2 ∧ iR (roC.getD (0 : Int).toNat 0) ∧
    ((roC.getD (0 : Int).toNat 0) < x2 → F (-1) σ) ∧
    (¬ ((roC.getD (0 : Int).toNat 0) < x2) → TI X k2_allRows [vr o_ms] σ (fun r1 τ1 =>
      iR r1 ∧ iR (x1 * x2) ∧
      ((x1 * x2) < r1 → L5_least_66 X τ1 x1 x2 0 F) ∧
      (¬ ((x1 * x2) < r1) → L5_least_66 X τ1 x1 x2 1 F)))) : L5_least_36 X σ x1 x2 F := go_w 17 h
set_option maxRecDepth 10000 in
theorem c5_least_66 {X : En} {σ : Wd} {x1 x2 s0 : Int} {F : Int → Wd → Prop} (h :
    iR s0 ∧
    (s0 = 0 → L5_least_36 X σ x1 (x2 + 1) F) ∧
    (¬ (s0 = 0) → TI X k0_solve [vr o_bk, vi x2] σ (fun r1 τ1 =>
      iR r1 ∧ iR (-1) ∧
      (r1 = (-1) → L5_least_36 X τ1 x1 (x2 + 1) F) ∧
      (¬ (r1 = (-1)) → TI X k0_countPages [vr o_bk] τ1 (fun r2 τ2 =>
        iR r2 ∧ iR x1 ∧
        (x1 < r2 → L5_least_36 X τ2 x1 (x2 + 1) F) ∧
        (¬ (x1 < r2) → F x2 τ2)))))) : L5_least_66 X σ x1 x2 s0 F := go_w 18 h
set_option maxRecDepth 10000 in
theorem e5_tried {X : En} (hX : XV X) {σ : Wd} {x1 x2 : Int} {F : Int → Wd → Prop} (h :
    TI X k1_hasParagraph [vr o_mt, vi x1] σ (fun r1 τ1 =>
    iR r1 ∧
    (¬ r1 = 0 → iR x2 ∧ iR (-8) ∧
      (x2 < (-8) → F (-1002) τ1) ∧
      (¬ (x2 < (-8)) → iR x2 ∧ iR 8 ∧
        (x2 ≤ 8 → (0 ≤ x1 ∧ x1 < 16) ∧ TI X k5_isParagraphSize [vi ((τ1 mt_sizes x1) + x2)] τ1 (fun r2 τ2 =>
          iR r2 ∧
          (r2 = 0 → F (-1003) τ2) ∧
          (¬ (r2 = 0) → iR ((τ2 mt_lines 0) + x2) ∧ iR 50 ∧
            (((τ2 mt_lines 0) + x2) ≤ 50 → TV X k1_copyFrom [vr o_tr, vr o_mt] τ2 (fun τ3 =>
              TV X k1_resize [vr o_tr, vi x1, vi ((τ1 mt_sizes x1) + x2)] τ3 (fun τ4 =>
              TV X k0_take [vr o_bk, vr o_tr, vr o_nb_rules] τ4 (fun τ5 =>
              (0 ≤ (0 : Int) ∧ (0 : Int) < 9) ∧ TI X k0_solve [vr o_bk, vi (τ5 nb_rules 0)] τ5 (fun r6 τ6 =>
              F r6 τ6))))) ∧
            (¬ (((τ2 mt_lines 0) + x2) ≤ 50) → F (-1003) τ2)))) ∧
        (¬ (x2 ≤ 8) → F (-1002) τ1))) ∧
    (¬ (¬ r1 = 0) → F (-1001) τ1))) : TI X k5_tried [vr o_nb, vi x1, vi x2] σ F := tr_w hX 55 rfl rfl h
set_option maxRecDepth 10000 in
theorem e5_isParagraphSize {X : En} (hX : XV X) {σ : Wd} {x0 : Int} {F : Int → Wd → Prop} (h :
    iR x0 ∧ iR 1 ∧
    (x0 < 1 → ((0 : Int) = 0 ∨ (0 : Int) = 1) ∧ F 0 σ) ∧
    (¬ (x0 < 1) → iR x0 ∧ iR 9 ∧
      (9 < x0 → ((0 : Int) = 0 ∨ (0 : Int) = 1) ∧ F 0 σ) ∧
      (¬ (9 < x0) → ((1 : Int) = 0 ∨ (1 : Int) = 1) ∧ F 1 σ))) : TI X k5_isParagraphSize [vi x0] σ F := tr_w hX 10 rfl rfl h
set_option maxRecDepth 10000 in
theorem e5_isThere {X : En} (hX : XV X) {σ : Wd} {x1 x2 : Int} {F : Int → Wd → Prop} (h :
    iR x2 ∧
    (¬ x2 = 0 → iR x2 ∧ iR 3 ∧
      (¬ x2 = 3 → TI X k1_hasNote [vr o_mt, vi x1] σ (fun r1 τ1 =>
        (r1 = 0 ∨ r1 = 1) ∧ F r1 τ1)) ∧
      (¬ (¬ x2 = 3) → iR x1 ∧
        (x1 < 0 → ((0 : Int) = 0 ∨ (0 : Int) = 1) ∧ F 0 σ) ∧
        (¬ (x1 < 0) → iR x1 ∧ iR (σ mt_figures 0) ∧
          ((σ mt_figures 0) ≤ x1 → ((0 : Int) = 0 ∨ (0 : Int) = 1) ∧ F 0 σ) ∧
          (¬ ((σ mt_figures 0) ≤ x1) → ((1 : Int) = 0 ∨ (1 : Int) = 1) ∧ F 1 σ)))) ∧
    (¬ (¬ x2 = 0) → TI X k1_hasLine [vr o_mt, vi x1] σ (fun r2 τ2 =>
      (r2 = 0 ∨ r2 = 1) ∧ F r2 τ2))) : TI X k5_isThere [vr o_nb, vi x1, vi x2] σ F := tr_w hX 16 rfl rfl h
set_option maxRecDepth 10000 in
theorem e5_breakAnew {X : En} (hX : XV X) {σ : Wd} {F : Wd → Prop} (h :
    iR (σ nb_stale 0) ∧
    (¬ (σ nb_stale 0) = 0 → TV X k0_take [vr o_bk, vr o_mt, vr o_nb_rules] σ (fun τ1 =>
      (0 ≤ (0 : Int) ∧ (0 : Int) < 9) ∧ TI X k0_solve [vr o_bk, vi (τ1 nb_rules 0)] τ1 (fun r2 τ2 =>
      ∀ τ3, τ3 = wu τ2 pt_total 0 r2 →
      ∀ τ4, τ4 = wu τ3 pt_pages 0 (-1) →
      iR (τ4 pt_total 0) ∧ iR (-1) ∧
      ((τ4 pt_total 0) = (-1) → ((0 : Int) = 0 ∨ (0 : Int) = 1) ∧ ∀ τ5, τ5 = wu τ4 nb_stale 0 0 →
        F τ5) ∧
      (¬ ((τ4 pt_total 0) = (-1)) → TV X k0_list [vr o_bk, vr o_pt] τ4 (fun τ6 =>
        ((0 : Int) = 0 ∨ (0 : Int) = 1) ∧ ∀ τ7, τ7 = wu τ6 nb_stale 0 0 →
        F τ7))))) ∧
    (¬ (¬ (σ nb_stale 0) = 0) → F σ)) : TV X k5_breakAnew [vr o_nb] σ F := tr_w hX 39 rfl rfl h
set_option maxRecDepth 10000 in
theorem e5_pageOfLastRow {X : En} (hX : XV X) {σ : Wd} {x1 : Int} {F : Int → Wd → Prop} (h :
    (0 ≤ x1 ∧ x1 < 20) ∧ TI X k3_pageOfLine [vr o_pt, vi (σ mt_noteLine x1)] σ (fun r1 τ1 =>
    TI X k3_fact [vr o_pt, vi r1, vi 8] τ1 (fun r2 τ2 =>
    iR r2 ∧
    (r2 ≤ 0 → iR 0 ∧
      ((0 : Int) = 0 → F r1 τ2) ∧
      (¬ ((0 : Int) = 0) → F (r1 + 1) τ2)) ∧
    (¬ (r2 ≤ 0) → TI X k3_fact [vr o_pt, vi r1, vi 0] τ2 (fun r3 τ3 =>
      TI X k3_fact [vr o_pt, vi r1, vi 1] τ3 (fun r4 τ4 =>
      TI X k1_lastOfSplitting [vr o_mt, vi (r3 + r4)] τ4 (fun r5 τ5 =>
      iR r5 ∧ iR x1 ∧
      (¬ r5 = x1 → iR 0 ∧
        ((0 : Int) = 0 → F r1 τ5) ∧
        (¬ ((0 : Int) = 0) → F (r1 + 1) τ5)) ∧
      (¬ (¬ r5 = x1) → iR 1 ∧
        ((1 : Int) = 0 → F r1 τ5) ∧
        (¬ ((1 : Int) = 0) → F (r1 + 1) τ5))))))))) : TI X k5_pageOfLastRow [vr o_nb, vi x1] σ F := tr_w hX 42 rfl rfl h
set_option maxRecDepth 10000 in
theorem e5_rowInMargin {X : En} (hX : XV X) {σ : Wd} {x1 : Int} {F : Int → Wd → Prop} (h :
    (0 ≤ x1 ∧ x1 < 20) ∧ iR (σ mt_noteBand x1) ∧ iR 2 ∧
    ((σ mt_noteBand x1) = 2 → (0 ≤ x1 ∧ x1 < 20) ∧ TI X k3_pageOfLine [vr o_pt, vi (σ mt_noteLine x1)] σ (fun r1 τ1 =>
      TI X k3_fact [vr o_pt, vi r1, vi 0] τ1 (fun r2 τ2 =>
      TI X k1_rowInMargin [vr o_mt, vi x1, vi r2] τ2 (fun r3 τ3 =>
      F r3 τ3)))) ∧
    (¬ ((σ mt_noteBand x1) = 2) → F (-1) σ)) : TI X k5_rowInMargin [vr o_nb, vi x1] σ F := tr_w hX 25 rfl rfl h
abbrev L5_growByPages_4 (X : En) (σ : Wd) (x1 x2 : Int) (F : Int → Wd → Prop) : Prop := Go X k5_growByPages 4 [some (vr o_nb), some (vi x1), some (vi x2), none, none] [] σ (QI F)
abbrev L5_growByPages_62 (X : En) (σ : Wd) (x1 x2 s0 : Int) (F : Int → Wd → Prop) : Prop := Go X k5_growByPages 62 [some (vr o_nb), some (vi x1), some (vi x2), none, none] [vi s0] σ (QI F)
set_option maxRecDepth 10000 in
theorem e5_growByPages {X : En} (hX : XV X) {σ : Wd} {F : Int → Wd → Prop} (h :
    L5_growByPages_4 X σ 0 0 F) : TI X k5_growByPages [vr o_nb] σ F := tr_w hX 6 rfl rfl h
set_option maxRecDepth 10000 in
theorem c5_growByPages_4 {X : En} {σ : Wd} {x1 x2 : Int} {F : Int → Wd → Prop} (h :
    iR x2 ∧ iR (σ mt_notes 0) ∧
    ((σ mt_notes 0) ≤ x2 → (x1 = 0 ∨ x1 = 1) ∧ F x1 σ) ∧
    (¬ ((σ mt_notes 0) ≤ x2) → (0 ≤ x2 ∧ x2 < 20) ∧ TI X k1_hasNote [vr o_mt, vi (σ mt_noteTo x2)] σ (fun r1 τ1 =>
      iR r1 ∧
      (r1 = 0 → L5_growByPages_62 X τ1 x1 x2 0 F) ∧
      (¬ (r1 = 0) → (0 ≤ (σ mt_noteTo x2) ∧ (σ mt_noteTo x2) < 20) ∧ TI X k3_pageOfLine [vr o_pt, vi (τ1 mt_noteLine (σ mt_noteTo x2))] τ1 (fun r2 τ2 =>
        iR r2 ∧ iR 9 ∧
        (r2 < 9 → L5_growByPages_62 X τ2 x1 x2 0 F) ∧
        (¬ (r2 < 9) → L5_growByPages_62 X τ2 x1 x2 1 F)))))) : L5_growByPages_4 X σ x1 x2 F := go_w 30 h
set_option maxRecDepth 10000 in
theorem c5_growByPages_62 {X : En} {σ : Wd} {x1 x2 s0 : Int} {F : Int → Wd → Prop} (h :
    (0 ≤ x2 ∧ x2 < 20) ∧ iR s0 ∧ iR (σ mt_noteGrown x2) ∧
    (s0 = (σ mt_noteGrown x2) → L5_growByPages_4 X σ x1 (x2 + 1) F) ∧
    (¬ (s0 = (σ mt_noteGrown x2)) → (0 ≤ x2 ∧ x2 < 20) ∧ (s0 = 0 ∨ s0 = 1) ∧ ∀ τ1, τ1 = wu σ mt_noteGrown x2 s0 →
      L5_growByPages_4 X τ1 1 (x2 + 1) F)) : L5_growByPages_62 X σ x1 x2 s0 F := go_w 20 h
