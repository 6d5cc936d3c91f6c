abbrev L0_take_mt_10 (X : En) (σ : Wd) (x3 : Int) (F : Wd → Prop) : Prop := Go X k0_take 10 [some (vr o_bk), none, some (vr o_nb_rules), some (vi x3)] [] σ (QV F)
set_option maxRecDepth 10000 in
theorem e0_take_mt {X : En} (hX : XV X) {σ : Wd} {F : Wd → Prop} (h :
    TV X k2_take [vr o_ms, vr o_mt] σ (fun τ1 =>
    L0_take_mt_10 X τ1 0 F)) : TV X k0_take [vr o_bk, vr o_mt, vr o_nb_rules] σ F := tr_w hX 8 rfl rfl h
set_option maxRecDepth 10000 in
theorem c0_take_mt_10 {X : En} {σ : Wd} {x3 : Int} {F : Wd → Prop} (h :
    iR x3 ∧ iR 9 ∧
    (9 ≤ x3 → F σ) ∧
    (¬ (9 ≤ x3) → iR x3 ∧ iR 9 ∧
      (9 ≤ x3 → F σ) ∧
      (¬ (9 ≤ x3) → (0 ≤ x3 ∧ x3 < 9) ∧ (0 ≤ x3 ∧ x3 < 9) ∧ ∀ τ1, τ1 = wu σ bk_rules x3 (σ nb_rules x3) →
        L0_take_mt_10 X τ1 (x3 + 1) F))) : L0_take_mt_10 X σ x3 F := go_w 18 h
abbrev L0_take_tr_10 (X : En) (σ : Wd) (x3 : Int) (F : Wd → Prop) : Prop := Go X k0_take 10 [some (vr o_bk), none, some (vr o_nb_rules), some (vi x3)] [] σ (QV F)
set_option maxRecDepth 10000 in
theorem e0_take_tr {X : En} (hX : XV X) {σ : Wd} {F : Wd → Prop} (h :
    TV X k2_take [vr o_ms, vr o_tr] σ (fun τ1 =>
    L0_take_tr_10 X τ1 0 F)) : TV X k0_take [vr o_bk, vr o_tr, vr o_nb_rules] σ F := tr_w hX 8 rfl rfl h
set_option maxRecDepth 10000 in
theorem c0_take_tr_10 {X : En} {σ : Wd} {x3 : Int} {F : Wd → Prop} (h :
    iR x3 ∧ iR 9 ∧
    (9 ≤ x3 → F σ) ∧
    (¬ (9 ≤ x3) → iR x3 ∧ iR 9 ∧
      (9 ≤ x3 → F σ) ∧
      (¬ (9 ≤ x3) → (0 ≤ x3 ∧ x3 < 9) ∧ (0 ≤ x3 ∧ x3 < 9) ∧ ∀ τ1, τ1 = wu σ bk_rules x3 (σ nb_rules x3) →
        L0_take_tr_10 X τ1 (x3 + 1) F))) : L0_take_tr_10 X σ x3 F := go_w 18 h
set_option maxRecDepth 10000 in
theorem e0_stateOf {X : En} (hX : XV X) {σ : Wd} {x0 x1 x2 : Int} {F : Int → Wd → Prop} (h :
    F ((((x0 * 11) + x1) * 5) + x2) σ) : TI X k0_stateOf [vi x0, vi x1, vi x2] σ F := tr_w hX 11 rfl rfl h
set_option maxRecDepth 10000 in
theorem e0_lineOf {X : En} (hX : XV X) {σ : Wd} {x0 : Int} {F : Int → Wd → Prop} (h :
    (0 ≤ x0 ∧ iR x0 ∧ 0 < (55 : Int) ∧ iR 55) ∧ F (x0 / 55) σ) : TI X k0_lineOf [vi x0] σ F := tr_w hX 5 rfl rfl h
set_option maxRecDepth 10000 in
theorem e0_carriedOf {X : En} (hX : XV X) {σ : Wd} {x0 : Int} {F : Int → Wd → Prop} (h :
    (0 ≤ x0 ∧ iR x0 ∧ 0 < (5 : Int) ∧ iR 5) ∧ (0 ≤ (x0 / 5) ∧ iR (x0 / 5) ∧ 0 < (11 : Int) ∧ iR 11) ∧ F ((x0 / 5) % 11) σ) : TI X k0_carriedOf [vi x0] σ F := tr_w hX 7 rfl rfl h
set_option maxRecDepth 10000 in
theorem e0_placedOf {X : En} (hX : XV X) {σ : Wd} {x0 : Int} {F : Int → Wd → Prop} (h :
    (0 ≤ x0 ∧ iR x0 ∧ 0 < (5 : Int) ∧ iR 5) ∧ F (x0 % 5) σ) : TI X k0_placedOf [vi x0] σ F := tr_w hX 5 rfl rfl h
abbrev L0_solve_37 (X : En) (σ : Wd) (x2 x3 : Int) (F : Int → Wd → Prop) : Prop := Go X k0_solve 37 [some (vr o_bk), none, some (vi x2), some (vi x3), none, none, none] [] σ (QI F)
abbrev L0_solve_86 (X : En) (σ : Wd) (x2 x3 x4 x5 : Int) (F : Int → Wd → Prop) : Prop := Go X k0_solve 86 [some (vr o_bk), none, some (vi x2), some (vi x3), some (vi x4), some (vi x5), none] [] σ (QI F)
abbrev L0_solve_116 (X : En) (σ : Wd) (x2 x3 x4 x5 x6 : Int) (F : Int → Wd → Prop) : Prop := Go X k0_solve 116 [some (vr o_bk), none, some (vi x2), some (vi x3), some (vi x4), some (vi x5), some (vi x6)] [] σ (QI F)
set_option maxRecDepth 10000 in
theorem e0_solve {X : En} (hX : XV X) {σ : Wd} {x1 : Int} {F : Int → Wd → Prop} (h :
    ∀ τ1, τ1 = wu σ bk_height 0 x1 →
    (0 ≤ (τ1 ms_lines 0) ∧ (τ1 ms_lines 0) < 51) ∧ TI X k0_stateOf [vi (τ1 ms_lines 0), vi 0, vi (τ1 ms_figures (τ1 ms_lines 0))] τ1 (fun r2 τ2 =>
    (0 ≤ r2 ∧ r2 < 2805) ∧ ∀ τ3, τ3 = wu τ2 bk_costs r2 0 →
    L0_solve_37 X τ3 (τ1 ms_lines 0) ((τ1 ms_lines 0) - 1) F)) : TI X k0_solve [vr o_bk, vi x1] σ F := tr_w hX 25 rfl rfl h
set_option maxRecDepth 10000 in
theorem c0_solve_37 {X : En} {σ : Wd} {x2 x3 : Int} {F : Int → Wd → Prop} (h :
    iR x3 ∧
    (x3 < 0 → TI X k0_stateOf [vi 0, vi 0, vi 0] σ (fun r1 τ1 =>
      (0 ≤ r1 ∧ r1 < 2805) ∧ iR (τ1 bk_costs r1) ∧ iR 1000000000 ∧
      (1000000000 ≤ (τ1 bk_costs r1) → F (-1) τ1) ∧
      (¬ (1000000000 ≤ (τ1 bk_costs r1)) → F (τ1 bk_costs r1) τ1))) ∧
    (¬ (x3 < 0) → iR x2 ∧ iR (x3 + (σ bk_height 0)) ∧ TV X k2_layMargin [vr o_ms, vi x3, vi (min x2 (x3 + (σ bk_height 0)))] σ (fun τ2 =>
      TI X k0_mostCarriedTo [vr o_bk, vi x3] τ2 (fun r3 τ3 =>
      iR 0 ∧ iR (x3 - (τ3 bk_height 0)) ∧ (0 ≤ (max 0 (x3 - (τ3 bk_height 0))) ∧ (max 0 (x3 - (τ3 bk_height 0))) < 51) ∧ L0_solve_86 X τ3 x2 x3 r3 (τ3 ms_figures (max 0 (x3 - (τ3 bk_height 0)))) F)))) : L0_solve_37 X σ x2 x3 F := go_w 29 h
set_option maxRecDepth 10000 in
theorem c0_solve_86 {X : En} {σ : Wd} {x2 x3 x4 x5 : Int} {F : Int → Wd → Prop} (h :
    (0 ≤ x3 ∧ x3 < 51) ∧ iR x5 ∧ iR (σ ms_figures x3) ∧
    ((σ ms_figures x3) < x5 → L0_solve_37 X σ x2 (x3 + (-1)) F) ∧
    (¬ ((σ ms_figures x3) < x5) → TV X k0_solvePage [vr o_bk, vi x3, vi 0, vi x5] σ (fun τ1 =>
      (0 ≤ (3 : Int) ∧ (3 : Int) < 9) ∧ L0_solve_116 X τ1 x2 x3 x4 x5 (τ1 bk_rules 3) F))) : L0_solve_86 X σ x2 x3 x4 x5 F := go_w 19 h
set_option maxRecDepth 10000 in
theorem c0_solve_116 {X : En} {σ : Wd} {x2 x3 x4 x5 x6 : Int} {F : Int → Wd → Prop} (h :
    iR x6 ∧ iR x4 ∧
    (x4 < x6 → L0_solve_86 X σ x2 x3 x4 (x5 + 1) F) ∧
    (¬ (x4 < x6) → TV X k0_solvePage [vr o_bk, vi x3, vi x6, vi x5] σ (fun τ1 =>
      L0_solve_116 X τ1 x2 x3 x4 x5 (x6 + 1) F))) : L0_solve_116 X σ x2 x3 x4 x5 x6 F := go_w 12 h
abbrev L0_mostCarriedTo_23 (X : En) (σ : Wd) (x1 s0 : Int) (F : Int → Wd → Prop) : Prop := Go X k0_mostCarriedTo 23 [some (vr o_bk), some (vi x1), none] [vi s0] σ (QI F)
set_option maxRecDepth 10000 in
theorem e0_mostCarriedTo {X : En} (hX : XV X) {σ : Wd} {x1 : Int} {F : Int → Wd → Prop} (h :
    (0 ≤ x1 ∧ x1 < 51) ∧ iR (x1 - (σ ms_lastLine0 x1)) ∧ iR (σ bk_height 0) ∧
    ((σ bk_height 0) ≤ (x1 - (σ ms_lastLine0 x1)) → L0_mostCarriedTo_23 X σ x1 0 F) ∧
    (¬ ((σ bk_height 0) ≤ (x1 - (σ ms_lastLine0 x1))) → L0_mostCarriedTo_23 X σ x1 1 F)) : TI X k0_mostCarriedTo [vr o_bk, vi x1] σ F := tr_w hX 14 rfl rfl h
set_option maxRecDepth 10000 in
theorem c0_mostCarriedTo_23 {X : En} {σ : Wd} {x1 s0 : Int} {F : Int → Wd → Prop} (h :
    iR s0 ∧
    (s0 = 0 → F 0 σ) ∧
    (¬ (s0 = 0) → (0 ≤ x1 ∧ x1 < 51) ∧ (0 ≤ (2 : Int) ∧ (2 : Int) < 9) ∧ F ((σ ms_lastRows0 x1) - (σ bk_rules 2)) σ)) : L0_mostCarriedTo_23 X σ x1 s0 F := go_w 16 h
abbrev L0_solvePage_49 (X : En) (σ : Wd) (x1 x2 x3 x4 x5 : Int) (F : Wd → Prop) : Prop := Go X k0_solvePage 49 [some (vr o_bk), some (vi x1), some (vi x2), some (vi x3), some (vi x4), some (vi x5)] [] σ (QV F)
abbrev L0_solvePage_108 (X : En) (σ : Wd) (x1 x2 x3 : Int) (F : Wd → Prop) : Prop := Go X k0_solvePage 108 [some (vr o_bk), some (vi x1), some (vi x2), some (vi x3), none, none] [] σ (QV F)
set_option maxRecDepth 10000 in
theorem e0_solvePage {X : En} (hX : XV X) {σ : Wd} {x1 x2 x3 : Int} {F : Wd → Prop} (h :
    ∀ τ1, τ1 = wu σ bk_begin 0 x1 →
    ∀ τ2, τ2 = wu τ1 bk_carried 0 x2 →
    ∀ τ3, τ3 = wu τ2 bk_placed 0 x3 →
    ∀ τ4, τ4 = wu τ3 bk_best 0 1000000000 →
    ∀ τ5, τ5 = wu τ4 bk_bestNext 0 0 →
    iR (τ5 ms_lines 0) ∧ iR (x1 + (τ5 bk_height 0)) ∧ L0_solvePage_49 X τ5 x1 x2 x3 (min (τ5 ms_lines 0) (x1 + (τ5 bk_height 0))) (x1 + 1) F) : TV X k0_solvePage [vr o_bk, vi x1, vi x2, vi x3] σ F := tr_w hX 30 rfl rfl h
set_option maxRecDepth 10000 in
theorem c0_solvePage_49 {X : En} {σ : Wd} {x1 x2 x3 x4 x5 : Int} {F : Wd → Prop} (h :
    iR x5 ∧ iR x4 ∧
    (x4 < x5 → L0_solvePage_108 X σ x1 x2 x3 F) ∧
    (¬ (x4 < x5) → TI X k0_leastRows [vr o_bk, vi x5] σ (fun r1 τ1 =>
      iR r1 ∧ iR (τ1 bk_height 0) ∧
      ((τ1 bk_height 0) < r1 → L0_solvePage_108 X τ1 x1 x2 x3 F) ∧
      (¬ ((τ1 bk_height 0) < r1) → iR x5 ∧ iR (τ1 ms_lines 0) ∧
        (x5 = (τ1 ms_lines 0) → TV X k0_weighEnd [vr o_bk, vi x5] τ1 (fun τ2 =>
          L0_solvePage_49 X τ2 x1 x2 x3 x4 (x5 + 1) F)) ∧
        (¬ (x5 = (τ1 ms_lines 0)) → (0 ≤ (x5 - 1) ∧ (x5 - 1) < 50) ∧ iR (τ1 ms_lastOfHead (x5 - 1)) ∧
          (¬ (τ1 ms_lastOfHead (x5 - 1)) = 0 → L0_solvePage_49 X τ1 x1 x2 x3 x4 (x5 + 1) F) ∧
          (¬ (¬ (τ1 ms_lastOfHead (x5 - 1)) = 0) → TV X k0_weighEnd [vr o_bk, vi x5] τ1 (fun τ3 =>
            L0_solvePage_49 X τ3 x1 x2 x3 x4 (x5 + 1) F))))))) : L0_solvePage_49 X σ x1 x2 x3 x4 x5 F := go_w 29 h
set_option maxRecDepth 10000 in
theorem c0_solvePage_108 {X : En} {σ : Wd} {x1 x2 x3 : Int} {F : Wd → Prop} (h :
    TI X k0_stateOf [vi x1, vi x2, vi x3] σ (fun r1 τ1 =>
    (0 ≤ r1 ∧ r1 < 2805) ∧ ∀ τ2, τ2 = wu τ1 bk_costs r1 (τ1 bk_best 0) →
    (0 ≤ r1 ∧ r1 < 2805) ∧ ∀ τ3, τ3 = wu τ2 bk_nextStates r1 (τ2 bk_bestNext 0) →
    F τ3)) : L0_solvePage_108 X σ x1 x2 x3 F := go_w 19 h
set_option maxRecDepth 10000 in
theorem e0_leastRows {X : En} (hX : XV X) {σ : Wd} {x1 : Int} {F : Int → Wd → Prop} (h :
    (0 ≤ (σ bk_begin 0) ∧ (σ bk_begin 0) < 51) ∧ (0 ≤ (σ ms_figures (σ bk_begin 0)) ∧ (σ ms_figures (σ bk_begin 0)) < 5) ∧ (0 ≤ (σ bk_placed 0) ∧ (σ bk_placed 0) < 5) ∧ TI X k0_rows0To [vr o_bk, vi x1] σ (fun r1 τ1 =>
    TI X k2_lastRowsOfPage [vr o_ms, vi (τ1 bk_begin 0), vi x1] τ1 (fun r2 τ2 =>
    TI X k0_rows1To [vr o_bk, vi x1] τ2 (fun r3 τ3 =>
    TI X k0_withGap [vr o_bk, vi r3] τ3 (fun r4 τ4 =>
    F ((((x1 - (τ2 bk_begin 0)) + ((σ ms_figureRows (σ ms_figures (σ bk_begin 0))) - (σ ms_figureRows (σ bk_placed 0)))) + (((σ bk_carried 0) + r1) - r2)) + r4) τ4))))) : TI X k0_leastRows [vr o_bk, vi x1] σ F := tr_w hX 48 rfl rfl h
set_option maxRecDepth 10000 in
theorem e0_rows0To {X : En} (hX : XV X) {σ : Wd} {x1 : Int} {F : Int → Wd → Prop} (h :
    (0 ≤ x1 ∧ x1 < 51) ∧ (0 ≤ (σ bk_begin 0) ∧ (σ bk_begin 0) < 51) ∧ F ((σ ms_rows0 x1) - (σ ms_rows0 (σ bk_begin 0))) σ) : TI X k0_rows0To [vr o_bk, vi x1] σ F := tr_w hX 14 rfl rfl h
set_option maxRecDepth 10000 in
theorem e0_rows1To {X : En} (hX : XV X) {σ : Wd} {x1 : Int} {F : Int → Wd → Prop} (h :
    (0 ≤ x1 ∧ x1 < 51) ∧ (0 ≤ (σ bk_begin 0) ∧ (σ bk_begin 0) < 51) ∧ F ((σ ms_rows1 x1) - (σ ms_rows1 (σ bk_begin 0))) σ) : TI X k0_rows1To [vr o_bk, vi x1] σ F := tr_w hX 14 rfl rfl h
set_option maxRecDepth 10000 in
theorem e0_withGap {X : En} (hX : XV X) {σ : Wd} {x1 : Int} {F : Int → Wd → Prop} (h :
    iR x1 ∧
    (x1 ≤ 0 → F 0 σ) ∧
    (¬ (x1 ≤ 0) → (0 ≤ (1 : Int) ∧ (1 : Int) < 9) ∧ F (x1 + (σ bk_rules 1)) σ)) : TI X k0_withGap [vr o_bk, vi x1] σ F := tr_w hX 11 rfl rfl h
abbrev L0_weighEnd_32 (X : En) (σ : Wd) (x1 x2 s0 : Int) (F : Wd → Prop) : Prop := Go X k0_weighEnd 32 [some (vr o_bk), some (vi x1), some (vi x2), none, none, none] [vi s0, vr o_ms_figures] σ (QV F)
abbrev L0_weighEnd_73 (X : En) (σ : Wd) (x1 x2 x4 x5 : Int) (F : Wd → Prop) : Prop := Go X k0_weighEnd 73 [some (vr o_bk), some (vi x1), some (vi x2), none, some (vi x4), some (vi x5)] [] σ (QV F)
set_option maxRecDepth 10000 in
theorem e0_weighEnd {X : En} (hX : XV X) {σ : Wd} {x1 : Int} {F : Wd → Prop} (h :
    TI X k0_costOfEnd [vr o_bk, vi x1] σ (fun r1 τ1 =>
    iR x1 ∧ iR (τ1 ms_lines 0) ∧
    (¬ x1 = (τ1 ms_lines 0) → L0_weighEnd_32 X τ1 x1 r1 (τ1 bk_begin 0) F) ∧
    (¬ (¬ x1 = (τ1 ms_lines 0)) → L0_weighEnd_32 X τ1 x1 r1 x1 F))) : TV X k0_weighEnd [vr o_bk, vi x1] σ F := tr_w hX 16 rfl rfl h
set_option maxRecDepth 10000 in
theorem c0_weighEnd_32 {X : En} {σ : Wd} {x1 x2 s0 : Int} {F : Wd → Prop} (h :
    (0 ≤ s0 ∧ s0 < 51) ∧ TI X k0_rows1To [vr o_bk, vi x1] σ (fun r1 τ1 =>
    TI X k0_withGap [vr o_bk, vi r1] τ1 (fun r2 τ2 =>
    (0 ≤ (τ2 bk_placed 0) ∧ (τ2 bk_placed 0) < 5) ∧ L0_weighEnd_73 X τ2 x1 x2 ((((σ bk_height 0) - (x1 - (σ bk_begin 0))) - r2) + (τ2 ms_figureRows (τ2 bk_placed 0))) (σ ms_figures s0) F))) : L0_weighEnd_32 X σ x1 x2 s0 F := go_w 27 h
set_option maxRecDepth 10000 in
theorem c0_weighEnd_73 {X : En} {σ : Wd} {x1 x2 x4 x5 : Int} {F : Wd → Prop} (h :
    (0 ≤ x1 ∧ x1 < 51) ∧ iR x5 ∧ iR (σ ms_figures x1) ∧
    ((σ ms_figures x1) < x5 → F σ) ∧
    (¬ ((σ ms_figures x1) < x5) → TI X k0_stateOf [vi x1, vi 0, vi x5] σ (fun r1 τ1 =>
      (0 ≤ x5 ∧ x5 < 5) ∧ TV X k0_weighNotes [vr o_bk, vi x1, vi r1, vi (x4 - (τ1 ms_figureRows x5)), vi x2] τ1 (fun τ2 =>
      L0_weighEnd_73 X τ2 x1 x2 x4 (x5 + 1) F)))) : L0_weighEnd_73 X σ x1 x2 x4 x5 F := go_w 26 h
abbrev L0_costOfEnd_49 (X : En) (σ : Wd) (x1 s0 s1 : Int) (F : Int → Wd → Prop) : Prop := Go X k0_costOfEnd 49 [some (vr o_bk), some (vi x1)] [vi s0, vi s1] σ (QI F)
set_option maxRecDepth 10000 in
theorem e0_costOfEnd {X : En} (hX : XV X) {σ : Wd} {x1 : Int} {F : Int → Wd → Prop} (h :
    (0 ≤ (σ bk_begin 0) ∧ (σ bk_begin 0) < 50) ∧ iR (σ ms_lastOfMany (σ bk_begin 0)) ∧
    ((σ ms_lastOfMany (σ bk_begin 0)) = 0 → (0 ≤ (x1 - 1) ∧ (x1 - 1) < 50) ∧ iR (σ ms_firstOfMany (x1 - 1)) ∧
      ((σ ms_firstOfMany (x1 - 1)) = 0 → L0_costOfEnd_49 X σ x1 0 0 F) ∧
      (¬ ((σ ms_firstOfMany (x1 - 1)) = 0) → (0 ≤ (5 : Int) ∧ (5 : Int) < 9) ∧ L0_costOfEnd_49 X σ x1 (σ bk_rules 5) 0 F)) ∧
    (¬ ((σ ms_lastOfMany (σ bk_begin 0)) = 0) → (0 ≤ (4 : Int) ∧ (4 : Int) < 9) ∧ (0 ≤ (x1 - 1) ∧ (x1 - 1) < 50) ∧ iR (σ ms_firstOfMany (x1 - 1)) ∧
      ((σ ms_firstOfMany (x1 - 1)) = 0 → L0_costOfEnd_49 X σ x1 0 (σ bk_rules 4) F) ∧
      (¬ ((σ ms_firstOfMany (x1 - 1)) = 0) → (0 ≤ (5 : Int) ∧ (5 : Int) < 9) ∧ L0_costOfEnd_49 X σ x1 (σ bk_rules 5) (σ bk_rules 4) F))) : TI X k0_costOfEnd [vr o_bk, vi x1] σ F := tr_w hX 27 rfl rfl h
set_option maxRecDepth 10000 in
theorem c0_costOfEnd_49 {X : En} {σ : Wd} {x1 s0 s1 : Int} {F : Int → Wd → Prop} (h :
    (0 ≤ (7 : Int) ∧ (7 : Int) < 9) ∧ (0 ≤ (σ bk_begin 0) ∧ (σ bk_begin 0) < 51) ∧ (0 ≤ (8 : Int) ∧ (8 : Int) < 9) ∧ (0 ≤ x1 ∧ x1 < 51) ∧ F (((s1 + s0) + ((σ bk_rules 7) * ((σ ms_figures (σ bk_begin 0)) - (σ bk_placed 0)))) + ((σ bk_rules 8) * (σ ms_marginMoved x1))) σ) : L0_costOfEnd_49 X σ x1 s0 s1 F := go_w 29 h
abbrev L0_weighNotes_87 (X : En) (σ : Wd) (x2 x3 x4 x5 x6 x7 : Int) (F : Wd → Prop) : Prop := Go X k0_weighNotes 87 [some (vr o_bk), none, some (vi x2), some (vi x3), some (vi x4), some (vi x5), some (vi x6), some (vi x7), none] [] σ (QV F)
set_option maxRecDepth 10000 in
theorem e0_weighNotes {X : En} (hX : XV X) {σ : Wd} {x1 x2 x3 x4 : Int} {F : Wd → Prop} (h :
    TI X k0_rows0To [vr o_bk, vi x1] σ (fun r1 τ1 =>
    (0 ≤ x1 ∧ x1 < 51) ∧ iR 0 ∧ iR ((τ1 ms_marginEnd x1) - (x1 - (τ1 bk_begin 0))) ∧ iR x1 ∧ iR (τ1 ms_lines 0) ∧
    (¬ x1 = (τ1 ms_lines 0) → TI X k2_lastRowsOfPage [vr o_ms, vi (τ1 bk_begin 0), vi x1] τ1 (fun r2 τ2 =>
      (0 ≤ (2 : Int) ∧ (2 : Int) < 9) ∧ L0_weighNotes_87 X τ2 x2 x3 x4 ((σ bk_carried 0) + r1) (max 0 ((τ1 ms_marginEnd x1) - (x1 - (τ1 bk_begin 0)))) (r2 - (τ2 bk_rules 2)) F)) ∧
    (¬ (¬ x1 = (τ1 ms_lines 0)) → TI X k0_withGap [vr o_bk, vi ((σ bk_carried 0) + r1)] τ1 (fun r3 τ3 =>
      iR (x3 - r3) ∧ iR (max 0 ((τ1 ms_marginEnd x1) - (x1 - (τ1 bk_begin 0)))) ∧
      ((x3 - r3) < (max 0 ((τ1 ms_marginEnd x1) - (x1 - (τ1 bk_begin 0)))) → F τ3) ∧
      (¬ ((x3 - r3) < (max 0 ((τ1 ms_marginEnd x1) - (x1 - (τ1 bk_begin 0))))) → TV X k0_keepBetter [vr o_bk, vi x2, vi x4] τ3 (fun τ4 =>
        F τ4)))))) : TV X k0_weighNotes [vr o_bk, vi x1, vi x2, vi x3, vi x4] σ F := tr_w hX 39 rfl rfl h
set_option maxRecDepth 10000 in
theorem c0_weighNotes_87 {X : En} {σ : Wd} {x2 x3 x4 x5 x6 x7 : Int} {F : Wd → Prop} (h :
    (0 ≤ (3 : Int) ∧ (3 : Int) < 9) ∧ iR x7 ∧ iR (σ bk_rules 3) ∧
    (x7 < (σ bk_rules 3) → TI X k0_withGap [vr o_bk, vi x5] σ (fun r1 τ1 =>
      iR (x3 - r1) ∧ iR x6 ∧
      ((x3 - r1) < x6 → F τ1) ∧
      (¬ ((x3 - r1) < x6) → TV X k0_keepBetter [vr o_bk, vi x2, vi (x4 + ((x3 - r1) * (x3 - r1)))] τ1 (fun τ2 =>
        F τ2)))) ∧
    (¬ (x7 < (σ bk_rules 3)) → TI X k0_withGap [vr o_bk, vi (x5 - x7)] σ (fun r3 τ3 =>
      iR (x3 - r3) ∧ iR x6 ∧
      (x6 ≤ (x3 - r3) → (0 ≤ (6 : Int) ∧ (6 : Int) < 9) ∧ TV X k0_keepBetter [vr o_bk, vi (x2 + (x7 * 5)), vi ((x4 + (τ3 bk_rules 6)) + ((x3 - r3) * (x3 - r3)))] τ3 (fun τ4 =>
        L0_weighNotes_87 X τ4 x2 x3 x4 x5 x6 (x7 + (-1)) F)) ∧
      (¬ (x6 ≤ (x3 - r3)) → F τ3)))) : L0_weighNotes_87 X σ x2 x3 x4 x5 x6 x7 F := go_w 38 h
set_option maxRecDepth 10000 in
theorem e0_keepBetter {X : En} (hX : XV X) {σ : Wd} {x1 x2 : Int} {F : Wd → Prop} (h :
    iR x1 ∧
    (x1 < 0 → F σ) ∧
    (¬ (x1 < 0) → iR x1 ∧ iR 2805 ∧
      (2805 ≤ x1 → F σ) ∧
      (¬ (2805 ≤ x1) → (0 ≤ x1 ∧ x1 < 2805) ∧ iR (σ bk_costs x1) ∧ iR 1000000000 ∧
        ((σ bk_costs x1) < 1000000000 → (0 ≤ x1 ∧ x1 < 2805) ∧ iR (x2 + (σ bk_costs x1)) ∧ iR (σ bk_best 0) ∧
          ((σ bk_best 0) < (x2 + (σ bk_costs x1)) → F σ) ∧
          (¬ ((σ bk_best 0) < (x2 + (σ bk_costs x1))) → ∀ τ1, τ1 = wu σ bk_best 0 (x2 + (σ bk_costs x1)) →
            ∀ τ2, τ2 = wu τ1 bk_bestNext 0 x1 →
            F τ2)) ∧
        (¬ ((σ bk_costs x1) < 1000000000) → F σ)))) : TV X k0_keepBetter [vr o_bk, vi x1, vi x2] σ F := tr_w hX 30 rfl rfl h
abbrev L0_countPages_9 (X : En) (σ : Wd) (x1 x2 : Int) (F : Int → Wd → Prop) : Prop := Go X k0_countPages 9 [some (vr o_bk), some (vi x1), some (vi x2)] [] σ (QI F)
set_option maxRecDepth 10000 in
theorem e0_countPages {X : En} (hX : XV X) {σ : Wd} {F : Int → Wd → Prop} (h :
    TI X k0_stateOf [vi 0, vi 0, vi 0] σ (fun r1 τ1 =>
    L0_countPages_9 X τ1 r1 0 F)) : TI X k0_countPages [vr o_bk] σ F := tr_w hX 9 rfl rfl h
set_option maxRecDepth 10000 in
theorem c0_countPages_9 {X : En} {σ : Wd} {x1 x2 : Int} {F : Int → Wd → Prop} (h :
    iR x2 ∧ iR 50 ∧
    (50 ≤ x2 → F x2 σ) ∧
    (¬ (50 ≤ x2) → TI X k0_lineOf [vi x1] σ (fun r1 τ1 =>
      iR r1 ∧ iR (τ1 ms_lines 0) ∧
      ((τ1 ms_lines 0) ≤ r1 → F x2 τ1) ∧
      (¬ ((τ1 ms_lines 0) ≤ r1) → (0 ≤ x1 ∧ x1 < 2805) ∧ L0_countPages_9 X τ1 (τ1 bk_nextStates x1) (x2 + 1) F)))) : L0_countPages_9 X σ x1 x2 F := go_w 18 h
abbrev L0_list_15 (X : En) (σ : Wd) (x2 x3 x4 : Int) (F : Wd → Prop) : Prop := Go X k0_list 15 [some (vr o_bk), some (vr o_pt), some (vi x2), some (vi x3), some (vi x4)] [] σ (QV F)
set_option maxRecDepth 10000 in
theorem e0_list {X : En} (hX : XV X) {σ : Wd} {F : Wd → Prop} (h :
    TI X k0_countPages [vr o_bk] σ (fun r1 τ1 =>
    TI X k0_stateOf [vi 0, vi 0, vi 0] τ1 (fun r2 τ2 =>
    L0_list_15 X τ2 r1 r2 0 F))) : TV X k0_list [vr o_bk, vr o_pt] σ F := tr_w hX 12 rfl rfl h
set_option maxRecDepth 10000 in
theorem c0_list_15 {X : En} {σ : Wd} {x2 x3 x4 : Int} {F : Wd → Prop} (h :
    iR x4 ∧ iR x2 ∧
    (x2 ≤ x4 → ∀ τ1, τ1 = wu σ pt_pages 0 x2 →
      F τ1) ∧
    (¬ (x2 ≤ x4) → TV X k0_listPage [vr o_bk, vr o_pt, vi x4, vi x3] σ (fun τ2 =>
      (0 ≤ x3 ∧ x3 < 2805) ∧ L0_list_15 X τ2 x2 (τ2 bk_nextStates x3) (x4 + 1) F))) : L0_list_15 X σ x2 x3 x4 F := go_w 17 h
set_option maxRecDepth 10000 in
theorem e0_listPage {X : En} (hX : XV X) {σ : Wd} {x2 x3 : Int} {F : Wd → Prop} (h :
    (0 ≤ x3 ∧ x3 < 2805) ∧ TI X k0_lineOf [vi (σ bk_nextStates x3)] σ (fun r1 τ1 =>
    TI X k0_lineOf [vi x3] τ1 (fun r2 τ2 =>
    ∀ τ3, τ3 = wu τ2 bk_begin 0 r2 →
    TI X k0_carriedOf [vi x3] τ3 (fun r4 τ4 =>
    ∀ τ5, τ5 = wu τ4 bk_carried 0 r4 →
    TI X k0_placedOf [vi x3] τ5 (fun r6 τ6 =>
    ∀ τ7, τ7 = wu τ6 bk_placed 0 r6 →
    TI X k0_rows0To [vr o_bk, vi r1] τ7 (fun r8 τ8 =>
    TI X k0_carriedOf [vi (σ bk_nextStates x3)] τ8 (fun r9 τ9 =>
    TI X k0_placedOf [vi (σ bk_nextStates x3)] τ9 (fun r10 τ10 =>
    (0 ≤ r10 ∧ r10 < 5) ∧ (0 ≤ (τ10 bk_placed 0) ∧ (τ10 bk_placed 0) < 5) ∧ TV X k2_layMargin [vr o_ms, vi (τ10 bk_begin 0), vi r1] τ10 (fun τ11 =>
    TV X k3_put [vr o_pt, vi x2, vi 0, vi (τ11 bk_begin 0)] τ11 (fun τ12 =>
    TV X k3_put [vr o_pt, vi x2, vi 1, vi (r1 - (τ12 bk_begin 0))] τ12 (fun τ13 =>
    TI X k0_placedOf [vi (σ bk_nextStates x3)] τ13 (fun r14 τ14 =>
    TV X k3_put [vr o_pt, vi x2, vi 2, vi (r14 - (τ14 bk_placed 0))] τ14 (fun τ15 =>
    TV X k3_put [vr o_pt, vi x2, vi 3, vi (((τ7 bk_carried 0) + r8) - r9)] τ15 (fun τ16 =>
    TI X k0_rows1To [vr o_bk, vi r1] τ16 (fun r17 τ17 =>
    TV X k3_put [vr o_pt, vi x2, vi 4, vi r17] τ17 (fun τ18 =>
    TI X k0_withGap [vr o_bk, vi (((τ7 bk_carried 0) + r8) - r9)] τ18 (fun r19 τ19 =>
    TI X k0_rows1To [vr o_bk, vi r1] τ19 (fun r20 τ20 =>
    TI X k0_withGap [vr o_bk, vi r20] τ20 (fun r21 τ21 =>
    TV X k3_put [vr o_pt, vi x2, vi 5, vi (((((τ18 bk_height 0) - (r1 - (τ18 bk_begin 0))) - ((τ10 ms_figureRows r10) - (τ10 ms_figureRows (τ10 bk_placed 0)))) - r19) - r21)] τ21 (fun τ22 =>
    (0 ≤ x3 ∧ x3 < 2805) ∧ (0 ≤ (σ bk_nextStates x3) ∧ (σ bk_nextStates x3) < 2805) ∧ TV X k3_put [vr o_pt, vi x2, vi 6, vi ((τ22 bk_costs x3) - (τ22 bk_costs (σ bk_nextStates x3)))] τ22 (fun τ23 =>
    TV X k3_put [vr o_pt, vi x2, vi 7, vi (τ23 bk_carried 0)] τ23 (fun τ24 =>
    TI X k0_carriedOf [vi (σ bk_nextStates x3)] τ24 (fun r25 τ25 =>
    TV X k3_put [vr o_pt, vi x2, vi 8, vi r25] τ25 (fun τ26 =>
    (0 ≤ r1 ∧ r1 < 51) ∧ TV X k3_put [vr o_pt, vi x2, vi 9, vi (τ26 ms_marginMoved r1)] τ26 (fun τ27 =>
    F τ27))))))))))))))))))))))))) : TV X k0_listPage [vr o_bk, vr o_pt, vi x2, vi x3] σ F := tr_w hX 144 rfl rfl h
