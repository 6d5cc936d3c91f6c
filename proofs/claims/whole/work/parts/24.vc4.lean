abbrev L4_append_30 (X : En) (σ : Wd) (x2 x4 : Int) (F : Int → Wd → Prop) : Prop := Go X k4_append 30 [some (vr o_rt), none, some (vl x2), none, some (vi x4)] [] σ (QI F)
set_option maxRecDepth 10000 in
theorem e4_append {X : En} (hX : XV X) {σ : Wd} {x1 x2 : Int} {F : Int → Wd → Prop} (h :
    iR x1 ∧ iR 1 ∧
    (x1 < 1 → ((0 : Int) = 0 ∨ (0 : Int) = 1) ∧ F 0 σ) ∧
    (¬ (x1 < 1) → iR x1 ∧ iR 8 ∧
      (8 < x1 → ((0 : Int) = 0 ∨ (0 : Int) = 1) ∧ F 0 σ) ∧
      (¬ (8 < x1) → iR ((σ rt_length 0) + x1) ∧ iR 160 ∧
        (((σ rt_length 0) + x1) ≤ 160 → L4_append_30 X σ x2 (x1 - 1) F) ∧
        (¬ (((σ rt_length 0) + x1) ≤ 160) → ((0 : Int) = 0 ∨ (0 : Int) = 1) ∧ F 0 σ)))) : TI X k4_append [vr o_rt, vi x1, vl x2] σ F := tr_w hX 18 rfl rfl h
set_option maxRecDepth 10000 in
theorem c4_append_30 {X : En} {σ : Wd} {x2 x4 : Int} {F : Int → Wd → Prop} (h :
    iR x4 ∧
    (x4 < 0 → ((1 : Int) = 0 ∨ (1 : Int) = 1) ∧ F 1 σ) ∧
    (¬ (x4 < 0) → (0 ≤ (σ rt_length 0) ∧ (σ rt_length 0) < 160) ∧ ∀ τ1, τ1 = wu σ rt_bytes (σ rt_length 0) (bAnd (lUshr x2 (8 * x4)) 255) →
      ∀ τ2, τ2 = wu τ1 rt_length 0 ((τ1 rt_length 0) + 1) →
      L4_append_30 X τ2 x2 (x4 + (-1)) F)) : L4_append_30 X σ x2 x4 F := go_w 25 h
abbrev L4_parse_10 (X : En) (σ : Wd) (x2 : Int) (F : Int → Wd → Prop) : Prop := Go X k4_parse 10 [some (vr o_rt), some (vr o_nb_rules), some (vi x2), none] [] σ (QI F)
abbrev L4_parse_71 (X : En) (σ : Wd) (x2 x3 : Int) (F : Int → Wd → Prop) : Prop := Go X k4_parse 71 [some (vr o_rt), some (vr o_nb_rules), some (vi x2), some (vi x3)] [] σ (QI F)
set_option maxRecDepth 10000 in
theorem e4_parse {X : En} (hX : XV X) {σ : Wd} {F : Int → Wd → Prop} (h :
    TV X k4_begin [vr o_rt] σ (fun τ1 =>
    TV X k4_skipBlanks [vr o_rt] τ1 (fun τ2 =>
    L4_parse_10 X τ2 0 F))) : TI X k4_parse [vr o_rt, vr o_nb_rules] σ F := tr_w hX 8 rfl rfl h
set_option maxRecDepth 10000 in
theorem c4_parse_10 {X : En} {σ : Wd} {x2 : Int} {F : Int → Wd → Prop} (h :
    iR x2 ∧ iR 160 ∧
    (160 ≤ x2 → ∀ τ1, τ1 = wu σ rt_length 0 0 →
      iR (τ1 rt_faultKind 0) ∧
      ((τ1 rt_faultKind 0) = 0 → L4_parse_71 X τ1 x2 0 F) ∧
      (¬ ((τ1 rt_faultKind 0) = 0) → F ((-10) - (τ1 rt_faultKind 0)) τ1)) ∧
    (¬ (160 ≤ x2) → iR (σ rt_at 0) ∧ iR (σ rt_length 0) ∧
      ((σ rt_length 0) ≤ (σ rt_at 0) → ∀ τ2, τ2 = wu σ rt_length 0 0 →
        iR (τ2 rt_faultKind 0) ∧
        ((τ2 rt_faultKind 0) = 0 → L4_parse_71 X τ2 x2 0 F) ∧
        (¬ ((τ2 rt_faultKind 0) = 0) → F ((-10) - (τ2 rt_faultKind 0)) τ2)) ∧
      (¬ ((σ rt_length 0) ≤ (σ rt_at 0)) → iR (σ rt_faultKind 0) ∧
        (¬ (σ rt_faultKind 0) = 0 → ∀ τ3, τ3 = wu σ rt_length 0 0 →
          iR (τ3 rt_faultKind 0) ∧
          ((τ3 rt_faultKind 0) = 0 → L4_parse_71 X τ3 x2 0 F) ∧
          (¬ ((τ3 rt_faultKind 0) = 0) → F ((-10) - (τ3 rt_faultKind 0)) τ3)) ∧
        (¬ (¬ (σ rt_faultKind 0) = 0) → TV X k4_parseClause [vr o_rt] σ (fun τ4 =>
          TV X k4_skipBlanks [vr o_rt] τ4 (fun τ5 =>
          L4_parse_10 X τ5 (x2 + 1) F)))))) : L4_parse_10 X σ x2 F := go_w 23 h
set_option maxRecDepth 10000 in
theorem c4_parse_71 {X : En} {σ : Wd} {x2 x3 : Int} {F : Int → Wd → Prop} (h :
    iR x3 ∧ iR 9 ∧
    (9 ≤ x3 → F x2 σ) ∧
    (¬ (9 ≤ x3) → iR x3 ∧ iR 9 ∧
      (9 ≤ x3 → F x2 σ) ∧
      (¬ (9 ≤ x3) → (0 ≤ x3 ∧ x3 < 9) ∧ (0 ≤ x3 ∧ x3 < 9) ∧ ∀ τ1, τ1 = wu σ nb_rules x3 (σ rt_values x3) →
        L4_parse_71 X τ1 x2 (x3 + 1) F))) : L4_parse_71 X σ x2 x3 F := go_w 18 h
abbrev L4_begin_17 (X : En) (σ : Wd) (x1 : Int) (F : Wd → Prop) : Prop := Go X k4_begin 17 [some (vr o_rt), some (vi x1)] [] σ (QV F)
set_option maxRecDepth 10000 in
theorem e4_begin {X : En} (hX : XV X) {σ : Wd} {F : Wd → Prop} (h :
    ∀ τ1, τ1 = wu σ rt_at 0 0 →
    ∀ τ2, τ2 = wu τ1 rt_faultKind 0 0 →
    ∀ τ3, τ3 = wu τ2 rt_faultPlace 0 (-1) →
    L4_begin_17 X τ3 0 F) : TV X k4_begin [vr o_rt] σ F := tr_w hX 13 rfl rfl h
set_option maxRecDepth 10000 in
theorem c4_begin_17 {X : En} {σ : Wd} {x1 : Int} {F : Wd → Prop} (h :
    iR x1 ∧ iR 9 ∧
    (9 ≤ x1 → F σ) ∧
    (¬ (9 ≤ x1) → (0 ≤ x1 ∧ x1 < 9) ∧ (0 ≤ x1 ∧ x1 < 9) ∧ ∀ τ1, τ1 = wu σ rt_values x1 (roA.getD x1.toNat 0) →
      (0 ≤ x1 ∧ x1 < 9) ∧ ((0 : Int) = 0 ∨ (0 : Int) = 1) ∧ ∀ τ2, τ2 = wu τ1 rt_given x1 0 →
      L4_begin_17 X τ2 (x1 + 1) F)) : L4_begin_17 X σ x1 F := go_w 19 h
set_option maxRecDepth 10000 in
theorem e4_parseClause {X : En} (hX : XV X) {σ : Wd} {F : Wd → Prop} (h :
    TI X k4_parseWord [vr o_rt] σ (fun r1 τ1 =>
    TV X k4_skipBlanks [vr o_rt] τ1 (fun τ2 =>
    iR r1 ∧ iR (-1) ∧
    (r1 = (-1) → TV X k4_skipBlanks [vr o_rt] τ2 (fun τ3 =>
      iR (τ3 rt_faultKind 0) ∧
      (¬ (τ3 rt_faultKind 0) = 0 → F τ3) ∧
      (¬ (¬ (τ3 rt_faultKind 0) = 0) → TV X k4_parseEnd [vr o_rt] τ3 (fun τ4 =>
        F τ4)))) ∧
    (¬ (r1 = (-1)) → TV X k4_parseNumber [vr o_rt, vi r1] τ2 (fun τ5 =>
      TV X k4_skipBlanks [vr o_rt] τ5 (fun τ6 =>
      iR (τ6 rt_faultKind 0) ∧
      (¬ (τ6 rt_faultKind 0) = 0 → F τ6) ∧
      (¬ (¬ (τ6 rt_faultKind 0) = 0) → TV X k4_parseEnd [vr o_rt] τ6 (fun τ7 =>
        F τ7)))))))) : TV X k4_parseClause [vr o_rt] σ F := tr_w hX 20 rfl rfl h
abbrev L4_parseWord_5 (X : En) (σ : Wd) (x1 : Int) (F : Int → Wd → Prop) : Prop := Go X k4_parseWord 5 [some (vr o_rt), some (vi x1), none] [] σ (QI F)
abbrev L4_parseWord_57 (X : En) (σ : Wd) (x1 : Int) (F : Int → Wd → Prop) : Prop := Go X k4_parseWord 57 [some (vr o_rt), some (vi x1), none] [] σ (QI F)
set_option maxRecDepth 10000 in
theorem e4_parseWord {X : En} (hX : XV X) {σ : Wd} {F : Int → Wd → Prop} (h :
    L4_parseWord_5 X σ (σ rt_at 0) F) : TI X k4_parseWord [vr o_rt] σ F := tr_w hX 5 rfl rfl h
set_option maxRecDepth 10000 in
theorem c4_parseWord_5 {X : En} {σ : Wd} {x1 : Int} {F : Int → Wd → Prop} (h :
    iR (σ rt_at 0) ∧ iR (σ rt_length 0) ∧
    ((σ rt_length 0) ≤ (σ rt_at 0) → L4_parseWord_57 X σ x1 F) ∧
    (¬ ((σ rt_length 0) ≤ (σ rt_at 0)) → (0 ≤ (σ rt_at 0) ∧ (σ rt_at 0) < 160) ∧ iR (σ rt_bytes (σ rt_at 0)) ∧ iR 97 ∧
      ((σ rt_bytes (σ rt_at 0)) < 97 → L4_parseWord_57 X σ x1 F) ∧
      (¬ ((σ rt_bytes (σ rt_at 0)) < 97) → (0 ≤ (σ rt_at 0) ∧ (σ rt_at 0) < 160) ∧ iR (σ rt_bytes (σ rt_at 0)) ∧ iR 122 ∧
        (122 < (σ rt_bytes (σ rt_at 0)) → L4_parseWord_57 X σ x1 F) ∧
        (¬ (122 < (σ rt_bytes (σ rt_at 0))) → ∀ τ1, τ1 = wu σ rt_at 0 ((σ rt_at 0) + 1) →
          L4_parseWord_5 X τ1 x1 F)))) : L4_parseWord_5 X σ x1 F := go_w 28 h
set_option maxRecDepth 10000 in
theorem c4_parseWord_57 {X : En} {σ : Wd} {x1 : Int} {F : Int → Wd → Prop} (h :
    TI X k4_clauseOf [vr o_rt, vi x1, vi (σ rt_at 0)] σ (fun r1 τ1 =>
    iR r1 ∧ iR (-1) ∧
    (¬ r1 = (-1) → (0 ≤ r1 ∧ r1 < 9) ∧ iR (τ1 rt_given r1) ∧
      ((τ1 rt_given r1) = 0 → F r1 τ1) ∧
      (¬ ((τ1 rt_given r1) = 0) → TV X k4_fail [vr o_rt, vi 3, vi x1] τ1 (fun τ2 =>
        F (-1) τ2))) ∧
    (¬ (¬ r1 = (-1)) → TV X k4_fail [vr o_rt, vi 1, vi x1] τ1 (fun τ3 =>
      F r1 τ3)))) : L4_parseWord_57 X σ x1 F := go_w 21 h
abbrev L4_parseNumber_7 (X : En) (σ : Wd) (x1 x2 x3 : Int) (F : Wd → Prop) : Prop := Go X k4_parseNumber 7 [some (vr o_rt), some (vi x1), some (vi x2), some (vi x3)] [] σ (QV F)
abbrev L4_parseNumber_87 (X : En) (σ : Wd) (x1 x2 x3 : Int) (F : Wd → Prop) : Prop := Go X k4_parseNumber 87 [some (vr o_rt), some (vi x1), some (vi x2), some (vi x3)] [] σ (QV F)
set_option maxRecDepth 10000 in
theorem e4_parseNumber {X : En} (hX : XV X) {σ : Wd} {x1 : Int} {F : Wd → Prop} (h :
    L4_parseNumber_7 X σ x1 (σ rt_at 0) 0 F) : TV X k4_parseNumber [vr o_rt, vi x1] σ F := tr_w hX 7 rfl rfl h
set_option maxRecDepth 10000 in
theorem c4_parseNumber_7 {X : En} {σ : Wd} {x1 x2 x3 : Int} {F : Wd → Prop} (h :
    iR (σ rt_at 0) ∧ iR (σ rt_length 0) ∧
    ((σ rt_length 0) ≤ (σ rt_at 0) → L4_parseNumber_87 X σ x1 x2 x3 F) ∧
    (¬ ((σ rt_length 0) ≤ (σ rt_at 0)) → (0 ≤ (σ rt_at 0) ∧ (σ rt_at 0) < 160) ∧ iR (σ rt_bytes (σ rt_at 0)) ∧ iR 48 ∧
      ((σ rt_bytes (σ rt_at 0)) < 48 → L4_parseNumber_87 X σ x1 x2 x3 F) ∧
      (¬ ((σ rt_bytes (σ rt_at 0)) < 48) → (0 ≤ (σ rt_at 0) ∧ (σ rt_at 0) < 160) ∧ iR (σ rt_bytes (σ rt_at 0)) ∧ iR 57 ∧
        (57 < (σ rt_bytes (σ rt_at 0)) → L4_parseNumber_87 X σ x1 x2 x3 F) ∧
        (¬ (57 < (σ rt_bytes (σ rt_at 0))) → iR ((σ rt_at 0) - x2) ∧ iR 2 ∧
          (2 ≤ ((σ rt_at 0) - x2) → ∀ τ1, τ1 = wu σ rt_at 0 ((σ rt_at 0) + 1) →
            L4_parseNumber_7 X τ1 x1 x2 x3 F) ∧
          (¬ (2 ≤ ((σ rt_at 0) - x2)) → (0 ≤ (σ rt_at 0) ∧ (σ rt_at 0) < 160) ∧ ∀ τ2, τ2 = wu σ rt_at 0 ((σ rt_at 0) + 1) →
            L4_parseNumber_7 X τ2 x1 x2 (((x3 * 10) + (σ rt_bytes (σ rt_at 0))) - 48) F))))) : L4_parseNumber_7 X σ x1 x2 x3 F := go_w 46 h
set_option maxRecDepth 10000 in
theorem c4_parseNumber_87 {X : En} {σ : Wd} {x1 x2 x3 : Int} {F : Wd → Prop} (h :
    iR (σ rt_at 0) ∧ iR x2 ∧
    (¬ (σ rt_at 0) = x2 → iR ((σ rt_at 0) - x2) ∧ iR 2 ∧
      (2 < ((σ rt_at 0) - x2) → TV X k4_fail [vr o_rt, vi 2, vi x2] σ (fun τ1 =>
        F τ1)) ∧
      (¬ (2 < ((σ rt_at 0) - x2)) → (0 ≤ x1 ∧ x1 < 9) ∧ iR x3 ∧ iR (roB.getD x1.toNat 0) ∧
        (x3 < (roB.getD x1.toNat 0) → TV X k4_fail [vr o_rt, vi 2, vi x2] σ (fun τ2 =>
          F τ2)) ∧
        (¬ (x3 < (roB.getD x1.toNat 0)) → (0 ≤ x1 ∧ x1 < 9) ∧ iR x3 ∧ iR (roC.getD x1.toNat 0) ∧
          (x3 ≤ (roC.getD x1.toNat 0) → (0 ≤ x1 ∧ x1 < 9) ∧ ∀ τ3, τ3 = wu σ rt_values x1 x3 →
            (0 ≤ x1 ∧ x1 < 9) ∧ ((1 : Int) = 0 ∨ (1 : Int) = 1) ∧ ∀ τ4, τ4 = wu τ3 rt_given x1 1 →
            F τ4) ∧
          (¬ (x3 ≤ (roC.getD x1.toNat 0)) → TV X k4_fail [vr o_rt, vi 2, vi x2] σ (fun τ5 =>
            F τ5))))) ∧
    (¬ (¬ (σ rt_at 0) = x2) → TV X k4_fail [vr o_rt, vi 1, vi x2] σ (fun τ6 =>
      F τ6))) : L4_parseNumber_87 X σ x1 x2 x3 F := go_w 32 h
set_option maxRecDepth 10000 in
theorem e4_parseEnd {X : En} (hX : XV X) {σ : Wd} {F : Wd → Prop} (h :
    iR (σ rt_at 0) ∧ iR (σ rt_length 0) ∧
    ((σ rt_length 0) ≤ (σ rt_at 0) → TV X k4_fail [vr o_rt, vi 1, vi (σ rt_at 0)] σ (fun τ1 =>
      F τ1)) ∧
    (¬ ((σ rt_length 0) ≤ (σ rt_at 0)) → (0 ≤ (σ rt_at 0) ∧ (σ rt_at 0) < 160) ∧ iR (σ rt_bytes (σ rt_at 0)) ∧ iR 59 ∧
      (¬ (σ rt_bytes (σ rt_at 0)) = 59 → TV X k4_fail [vr o_rt, vi 1, vi (σ rt_at 0)] σ (fun τ2 =>
        F τ2)) ∧
      (¬ (¬ (σ rt_bytes (σ rt_at 0)) = 59) → ∀ τ3, τ3 = wu σ rt_at 0 ((σ rt_at 0) + 1) →
        F τ3))) : TV X k4_parseEnd [vr o_rt] σ F := tr_w hX 21 rfl rfl h
abbrev L4_skipBlanks_0 (X : En) (σ : Wd) (F : Wd → Prop) : Prop := Go X k4_skipBlanks 0 [some (vr o_rt)] [] σ (QV F)
theorem e4_skipBlanks {X : En} (hX : XV X) {σ : Wd} {F : Wd → Prop} (h : L4_skipBlanks_0 X σ F) : TV X k4_skipBlanks [vr o_rt] σ F := tr_go hX (by decide) (by decide) h
set_option maxRecDepth 10000 in
theorem c4_skipBlanks_0 {X : En} {σ : Wd} {F : Wd → Prop} (h :
    iR (σ rt_at 0) ∧ iR (σ rt_length 0) ∧
    ((σ rt_length 0) ≤ (σ rt_at 0) → F σ) ∧
    (¬ ((σ rt_length 0) ≤ (σ rt_at 0)) → (0 ≤ (σ rt_at 0) ∧ (σ rt_at 0) < 160) ∧ iR (σ rt_bytes (σ rt_at 0)) ∧ iR 32 ∧
      (¬ (σ rt_bytes (σ rt_at 0)) = 32 → F σ) ∧
      (¬ (¬ (σ rt_bytes (σ rt_at 0)) = 32) → ∀ τ1, τ1 = wu σ rt_at 0 ((σ rt_at 0) + 1) →
        L4_skipBlanks_0 X τ1 F))) : L4_skipBlanks_0 X σ F := go_w 21 h
set_option maxRecDepth 10000 in
theorem e4_fail {X : En} (hX : XV X) {σ : Wd} {x1 x2 : Int} {F : Wd → Prop} (h :
    ∀ τ1, τ1 = wu σ rt_faultKind 0 x1 →
    ∀ τ2, τ2 = wu τ1 rt_faultPlace 0 x2 →
    F τ2) : TV X k4_fail [vr o_rt, vi x1, vi x2] σ F := tr_w hX 8 rfl rfl h
abbrev L4_clauseOf_2 (X : En) (σ : Wd) (x1 x2 x3 : Int) (F : Int → Wd → Prop) : Prop := Go X k4_clauseOf 2 [some (vr o_rt), some (vi x1), some (vi x2), some (vi x3)] [] σ (QI F)
set_option maxRecDepth 10000 in
theorem e4_clauseOf {X : En} (hX : XV X) {σ : Wd} {x1 x2 : Int} {F : Int → Wd → Prop} (h :
    L4_clauseOf_2 X σ x1 x2 0 F) : TI X k4_clauseOf [vr o_rt, vi x1, vi x2] σ F := tr_w hX 4 rfl rfl h
set_option maxRecDepth 10000 in
theorem c4_clauseOf_2 {X : En} {σ : Wd} {x1 x2 x3 : Int} {F : Int → Wd → Prop} (h :
    iR x3 ∧ iR 9 ∧
    (9 ≤ x3 → F (-1) σ) ∧
    (¬ (9 ≤ x3) → TI X k4_isWordOf [vr o_rt, vi x3, vi x1, vi x2] σ (fun r1 τ1 =>
      iR r1 ∧
      (r1 = 0 → L4_clauseOf_2 X τ1 x1 x2 (x3 + 1) F) ∧
      (¬ (r1 = 0) → F x3 τ1)))) : L4_clauseOf_2 X σ x1 x2 x3 F := go_w 13 h
abbrev L4_isWordOf_32 (X : En) (σ : Wd) (x2 x3 x4 x5 : Int) (F : Int → Wd → Prop) : Prop := Go X k4_isWordOf 32 [some (vr o_rt), none, some (vi x2), some (vi x3), some (vi x4), some (vi x5), none] [] σ (QI F)
set_option maxRecDepth 10000 in
theorem e4_isWordOf {X : En} (hX : XV X) {σ : Wd} {x1 x2 x3 : Int} {F : Int → Wd → Prop} (h :
    iR (x3 - x2) ∧ iR 7 ∧
    (7 ≤ (x3 - x2) → ((0 : Int) = 0 ∨ (0 : Int) = 1) ∧ F 0 σ) ∧
    (¬ (7 ≤ (x3 - x2)) → iR ((x1 * 7) + 7) ∧ iR 63 ∧
      (((x1 * 7) + 7) ≤ 63 → L4_isWordOf_32 X σ x2 x3 (x1 * 7) 0 F) ∧
      (¬ (((x1 * 7) + 7) ≤ 63) → ((0 : Int) = 0 ∨ (0 : Int) = 1) ∧ F 0 σ))) : TI X k4_isWordOf [vr o_rt, vi x1, vi x2, vi x3] σ F := tr_w hX 19 rfl rfl h
set_option maxRecDepth 10000 in
theorem c4_isWordOf_32 {X : En} {σ : Wd} {x2 x3 x4 x5 : Int} {F : Int → Wd → Prop} (h :
    iR x5 ∧ iR 7 ∧
    (7 ≤ x5 → ((1 : Int) = 0 ∨ (1 : Int) = 1) ∧ F 1 σ) ∧
    (¬ (7 ≤ x5) → iR (x2 + x5) ∧ iR x3 ∧
      (x3 ≤ (x2 + x5) → (0 ≤ (x4 + x5) ∧ (x4 + x5) < 63) ∧ iR 32 ∧ iR (chW (x4 + x5)) ∧
        ((32 : Int) = (chW (x4 + x5)) → L4_isWordOf_32 X σ x2 x3 x4 (x5 + 1) F) ∧
        (¬ ((32 : Int) = (chW (x4 + x5))) → ((0 : Int) = 0 ∨ (0 : Int) = 1) ∧ F 0 σ)) ∧
      (¬ (x3 ≤ (x2 + x5)) → (0 ≤ (x2 + x5) ∧ (x2 + x5) < 160) ∧ (0 ≤ (x4 + x5) ∧ (x4 + x5) < 63) ∧ iR (σ rt_bytes (x2 + x5)) ∧ iR (chW (x4 + x5)) ∧
        ((σ rt_bytes (x2 + x5)) = (chW (x4 + x5)) → L4_isWordOf_32 X σ x2 x3 x4 (x5 + 1) F) ∧
        (¬ ((σ rt_bytes (x2 + x5)) = (chW (x4 + x5))) → ((0 : Int) = 0 ∨ (0 : Int) = 1) ∧ F 0 σ)))) : L4_isWordOf_32 X σ x2 x3 x4 x5 F := go_w 27 h
