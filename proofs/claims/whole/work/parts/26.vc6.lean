set_option maxRecDepth 10000 in
theorem e6_in {X : En} (hX : XV X) {σ : Wd} {x0 x2 x4 : Int} {F : Int → Wd → Prop} (h :
    lR x0 ∧ lR x2 ∧ iR (cmp3 x0 x2) ∧
    ((cmp3 x0 x2) < 0 → ((0 : Int) = 0 ∨ (0 : Int) = 1) ∧ F 0 σ) ∧
    (¬ ((cmp3 x0 x2) < 0) → lR x0 ∧ lR x4 ∧ iR (cmp3 x0 x4) ∧
      (0 < (cmp3 x0 x4) → ((0 : Int) = 0 ∨ (0 : Int) = 1) ∧ F 0 σ) ∧
      (¬ (0 < (cmp3 x0 x4)) → ((1 : Int) = 0 ∨ (1 : Int) = 1) ∧ F 1 σ))) : TI X k6_in [vl x0, vl x2, vl x4] σ F := tr_w hX 12 rfl rfl h
set_option maxRecDepth 10000 in
theorem e6_first {X : En} (hX : XV X) {σ : Wd} {F : Wd → Prop} (h :
    (0 ≤ (0 : Int) ∧ (0 : Int) < 9) ∧ ∀ τ1, τ1 = wu σ md_fresh 0 12 →
    (0 ≤ (1 : Int) ∧ (1 : Int) < 9) ∧ ∀ τ2, τ2 = wu τ1 md_fresh 1 1 →
    (0 ≤ (2 : Int) ∧ (2 : Int) < 9) ∧ ∀ τ3, τ3 = wu τ2 md_fresh 2 2 →
    (0 ≤ (3 : Int) ∧ (3 : Int) < 9) ∧ ∀ τ4, τ4 = wu τ3 md_fresh 3 2 →
    (0 ≤ (4 : Int) ∧ (4 : Int) < 9) ∧ ∀ τ5, τ5 = wu τ4 md_fresh 4 20 →
    (0 ≤ (5 : Int) ∧ (5 : Int) < 9) ∧ ∀ τ6, τ6 = wu τ5 md_fresh 5 10 →
    (0 ≤ (6 : Int) ∧ (6 : Int) < 9) ∧ ∀ τ7, τ7 = wu τ6 md_fresh 6 15 →
    (0 ≤ (7 : Int) ∧ (7 : Int) < 9) ∧ ∀ τ8, τ8 = wu τ7 md_fresh 7 8 →
    (0 ≤ (8 : Int) ∧ (8 : Int) < 9) ∧ ∀ τ9, τ9 = wu τ8 md_fresh 8 1 →
    F τ9) : TV X k6_first [vr o_md] σ F := tr_w hX 47 rfl rfl h
abbrev L6_keepRules_2 (X : En) (σ : Wd) (x1 : Int) (F : Wd → Prop) : Prop := Go X k6_keepRules 2 [some (vr o_md), some (vi x1)] [] σ (QV F)
set_option maxRecDepth 10000 in
theorem e6_keepRules {X : En} (hX : XV X) {σ : Wd} {F : Wd → Prop} (h :
    L6_keepRules_2 X σ 0 F) : TV X k6_keepRules [vr o_md] σ F := tr_w hX 4 rfl rfl h
set_option maxRecDepth 10000 in
theorem c6_keepRules_2 {X : En} {σ : Wd} {x1 : Int} {F : Wd → Prop} (h :
    iR x1 ∧ iR 9 ∧
    (9 ≤ x1 → ((0 : Int) = 0 ∨ (0 : Int) = 1) ∧ ∀ τ1, τ1 = wu σ md_isFound 0 0 →
      F τ1) ∧
    (¬ (9 ≤ x1) → (0 ≤ x1 ∧ x1 < 9) ∧ (0 ≤ x1 ∧ x1 < 9) ∧ ∀ τ2, τ2 = wu σ md_rules x1 (σ md_fresh x1) →
      L6_keepRules_2 X τ2 (x1 + 1) F)) : L6_keepRules_2 X σ x1 F := go_w 15 h
abbrev L6_feed_37 (X : En) (σ : Wd) (x2 x4 : Int) (F : Int → Wd → Prop) : Prop := Go X k6_feed 37 [some (vr o_md), none, some (vl x2), none, some (vi x4)] [] σ (QI F)
set_option maxRecDepth 10000 in
theorem e6_feed {X : En} (hX : XV X) {σ : Wd} {x1 x2 : Int} {F : Int → Wd → Prop} (h :
    iR x1 ∧ TI X k6_in [vl x1, vl 1, vl 8] σ (fun r1 τ1 =>
    iR r1 ∧
    (¬ r1 = 0 → iR ((τ1 md_texted 0) + x1) ∧ iR 160 ∧
      (((τ1 md_texted 0) + x1) ≤ 160 → L6_feed_37 X τ1 x2 (x1 - 1) F) ∧
      (¬ (((τ1 md_texted 0) + x1) ≤ 160) → F (-1004) τ1)) ∧
    (¬ (¬ r1 = 0) → F (-1002) τ1))) : TI X k6_feed [vr o_md, vi x1, vl x2] σ F := tr_w hX 18 rfl rfl h
set_option maxRecDepth 10000 in
theorem c6_feed_37 {X : En} {σ : Wd} {x2 x4 : Int} {F : Int → Wd → Prop} (h :
    iR x4 ∧
    (x4 < 0 → F (σ md_texted 0) σ) ∧
    (¬ (x4 < 0) → (0 ≤ (σ md_texted 0) ∧ (σ md_texted 0) < 160) ∧ ∀ τ1, τ1 = wu σ md_text (σ md_texted 0) (lAnd (lShr x2 (8 * x4)) 255) →
      ∀ τ2, τ2 = wu τ1 md_texted 0 ((τ1 md_texted 0) + 1) →
      L6_feed_37 X τ2 x2 (x4 + (-1)) F)) : L6_feed_37 X σ x2 x4 F := go_w 25 h
abbrev L6_here_0 (X : En) (σ : Wd) (F : Int → Wd → Prop) : Prop := Go X k6_here 0 [some (vr o_md)] [] σ (QI F)
theorem e6_here {X : En} (hX : XV X) {σ : Wd} {F : Int → Wd → Prop} (h : L6_here_0 X σ F) : TI X k6_here [vr o_md] σ F := tr_go hX (by decide) (by decide) h
set_option maxRecDepth 10000 in
theorem c6_here_0 {X : En} {σ : Wd} {F : Int → Wd → Prop} (h :
    iR (σ md_at0 0) ∧ iR (σ md_texted 0) ∧
    ((σ md_texted 0) ≤ (σ md_at0 0) → iR (σ md_at0 0) ∧ iR (σ md_texted 0) ∧
      ((σ md_texted 0) ≤ (σ md_at0 0) → F (-1) σ) ∧
      (¬ ((σ md_texted 0) ≤ (σ md_at0 0)) → (0 ≤ (σ md_at0 0) ∧ (σ md_at0 0) < 160) ∧ F (σ md_text (σ md_at0 0)) σ)) ∧
    (¬ ((σ md_texted 0) ≤ (σ md_at0 0)) → (0 ≤ (σ md_at0 0) ∧ (σ md_at0 0) < 160) ∧ iR (σ md_text (σ md_at0 0)) ∧ iR 32 ∧
      (¬ (σ md_text (σ md_at0 0)) = 32 → iR (σ md_at0 0) ∧ iR (σ md_texted 0) ∧
        ((σ md_texted 0) ≤ (σ md_at0 0) → F (-1) σ) ∧
        (¬ ((σ md_texted 0) ≤ (σ md_at0 0)) → (0 ≤ (σ md_at0 0) ∧ (σ md_at0 0) < 160) ∧ F (σ md_text (σ md_at0 0)) σ)) ∧
      (¬ (¬ (σ md_text (σ md_at0 0)) = 32) → ∀ τ1, τ1 = wu σ md_at0 0 ((σ md_at0 0) + 1) →
        L6_here_0 X τ1 F))) : L6_here_0 X σ F := go_w 25 h
set_option maxRecDepth 10000 in
theorem e6_fails {X : En} (hX : XV X) {σ : Wd} {x1 x2 : Int} {F : Int → Wd → Prop} (h :
    ∀ τ1, τ1 = wu σ md_faultPlace 0 x2 →
    F x1 τ1) : TI X k6_fails [vr o_md, vi x1, vi x2] σ F := tr_w hX 6 rfl rfl h
abbrev L6_readWord_18 (X : En) (σ : Wd) (F : Wd → Prop) : Prop := Go X k6_readWord 18 [some (vr o_md), none] [] σ (QV F)
set_option maxRecDepth 10000 in
theorem e6_readWord {X : En} (hX : XV X) {σ : Wd} {F : Wd → Prop} (h :
    TI X k6_here [vr o_md] σ (fun r1 τ1 =>
    ∀ τ2, τ2 = wu τ1 md_word 0 0 →
    ∀ τ3, τ3 = wu τ2 md_wordEnd 0 (τ2 md_at0 0) →
    L6_readWord_18 X τ3 F)) : TV X k6_readWord [vr o_md] σ F := tr_w hX 12 rfl rfl h
set_option maxRecDepth 10000 in
theorem c6_readWord_18 {X : En} {σ : Wd} {F : Wd → Prop} (h :
    iR (σ md_wordEnd 0) ∧ iR (σ md_texted 0) ∧
    ((σ md_texted 0) ≤ (σ md_wordEnd 0) → F σ) ∧
    (¬ ((σ md_texted 0) ≤ (σ md_wordEnd 0)) → (0 ≤ (σ md_wordEnd 0) ∧ (σ md_wordEnd 0) < 160) ∧ iR (σ md_text (σ md_wordEnd 0)) ∧ TI X k6_in [vl (σ md_text (σ md_wordEnd 0)), vl 97, vl 122] σ (fun r1 τ1 =>
      iR r1 ∧
      (r1 = 0 → F τ1) ∧
      (¬ (r1 = 0) → lR (τ1 md_word 0) ∧ lR 10000000000 ∧ iR (cmp3 (τ1 md_word 0) 10000000000) ∧
        ((cmp3 (τ1 md_word 0) 10000000000) ≤ 0 → (0 ≤ (τ1 md_wordEnd 0) ∧ (τ1 md_wordEnd 0) < 160) ∧ iR (τ1 md_text (τ1 md_wordEnd 0)) ∧ ∀ τ2, τ2 = wu τ1 md_word 0 (((27 * (τ1 md_word 0)) + (τ1 md_text (τ1 md_wordEnd 0))) - 96) →
          ∀ τ3, τ3 = wu τ2 md_wordEnd 0 ((τ2 md_wordEnd 0) + 1) →
          L6_readWord_18 X τ3 F) ∧
        (¬ ((cmp3 (τ1 md_word 0) 10000000000) ≤ 0) → ∀ τ4, τ4 = wu τ1 md_word 0 20000000000 →
          ∀ τ5, τ5 = wu τ4 md_wordEnd 0 ((τ4 md_wordEnd 0) + 1) →
          L6_readWord_18 X τ5 F))))) : L6_readWord_18 X σ F := go_w 44 h
abbrev L6_code_78 (X : En) (σ : Wd) (x5 s0 : Int) (F : Int → Wd → Prop) : Prop := Go X k6_code 78 [none, none, none, none, none, some (vi x5), none, none] [vl s0] σ (QL F)
set_option maxRecDepth 10000 in
theorem e6_code {X : En} (hX : XV X) {σ : Wd} {x0 x1 x2 x3 x4 x5 : Int} {F : Int → Wd → Prop} (h :
    iR x0 ∧ iR x1 ∧ iR x2 ∧ iR x3 ∧
    (¬ x3 = 0 → iR x3 ∧ iR x4 ∧
      (¬ x4 = 0 → iR x4 ∧ L6_code_78 X σ x5 (((27 * (((27 * (((27 * (((27 * (x0 - 96)) + x1) - 96)) + x2) - 96)) + x3) - 96)) + x4) - 96) F) ∧
      (¬ (¬ x4 = 0) → L6_code_78 X σ x5 (((27 * (((27 * (((27 * (x0 - 96)) + x1) - 96)) + x2) - 96)) + x3) - 96) F)) ∧
    (¬ (¬ x3 = 0) → iR x4 ∧
      (¬ x4 = 0 → iR x4 ∧ L6_code_78 X σ x5 (((27 * (((27 * (((27 * (x0 - 96)) + x1) - 96)) + x2) - 96)) + x4) - 96) F) ∧
      (¬ (¬ x4 = 0) → L6_code_78 X σ x5 (((27 * (((27 * (x0 - 96)) + x1) - 96)) + x2) - 96) F))) : TL X k6_code [vi x0, vi x1, vi x2, vi x3, vi x4, vi x5] σ F := tr_w hX 42 rfl rfl h
set_option maxRecDepth 10000 in
theorem c6_code_78 {X : En} {σ : Wd} {x5 s0 : Int} {F : Int → Wd → Prop} (h :
    iR x5 ∧
    (¬ x5 = 0 → iR x5 ∧ F (((27 * s0) + x5) - 96) σ) ∧
    (¬ (¬ x5 = 0) → F s0 σ)) : L6_code_78 X σ x5 s0 F := go_w 13 h
abbrev L6_keyOf_103 (X : En) (σ : Wd) (s0 : Int) (F : Int → Wd → Prop) : Prop := Go X k6_keyOf 103 [some (vr o_md), none, none] [vi s0] σ (QI F)
set_option maxRecDepth 10000 in
theorem e6_keyOf {X : En} (hX : XV X) {σ : Wd} {F : Int → Wd → Prop} (h :
    TL X k6_code [vi 104, vi 101, vi 105, vi 103, vi 104, vi 116] σ (fun r1 τ1 =>
    lR (σ md_word 0) ∧ lR r1 ∧ iR (cmp3 (σ md_word 0) r1) ∧
    (¬ (cmp3 (σ md_word 0) r1) = 0 → TL X k6_code [vi 103, vi 97, vi 112, vi 0, vi 0, vi 0] τ1 (fun r2 τ2 =>
      lR (τ1 md_word 0) ∧ lR r2 ∧ iR (cmp3 (τ1 md_word 0) r2) ∧
      (¬ (cmp3 (τ1 md_word 0) r2) = 0 → TL X k6_code [vi 102, vi 105, vi 114, vi 115, vi 116, vi 0] τ2 (fun r3 τ3 =>
        lR (τ2 md_word 0) ∧ lR r3 ∧ iR (cmp3 (τ2 md_word 0) r3) ∧
        (¬ (cmp3 (τ2 md_word 0) r3) = 0 → TL X k6_code [vi 114, vi 101, vi 115, vi 116, vi 0, vi 0] τ3 (fun r4 τ4 =>
          lR (τ3 md_word 0) ∧ lR r4 ∧ iR (cmp3 (τ3 md_word 0) r4) ∧
          (¬ (cmp3 (τ3 md_word 0) r4) = 0 → L6_keyOf_103 X τ4 (-1) F) ∧
          (¬ (¬ (cmp3 (τ3 md_word 0) r4) = 0) → L6_keyOf_103 X τ4 3 F))) ∧
        (¬ (¬ (cmp3 (τ2 md_word 0) r3) = 0) → L6_keyOf_103 X τ3 2 F))) ∧
      (¬ (¬ (cmp3 (τ1 md_word 0) r2) = 0) → L6_keyOf_103 X τ2 1 F))) ∧
    (¬ (¬ (cmp3 (σ md_word 0) r1) = 0) → L6_keyOf_103 X τ1 0 F))) : TI X k6_keyOf [vr o_md] σ F := tr_w hX 48 rfl rfl h
set_option maxRecDepth 10000 in
theorem c6_keyOf_103 {X : En} {σ : Wd} {s0 : Int} {F : Int → Wd → Prop} (h :
    TL X k6_code [vi 119, vi 105, vi 100, vi 111, vi 119, vi 0] σ (fun r1 τ1 =>
    lR (σ md_word 0) ∧ lR r1 ∧ iR (cmp3 (σ md_word 0) r1) ∧
    (¬ (cmp3 (σ md_word 0) r1) = 0 → TL X k6_code [vi 111, vi 114, vi 112, vi 104, vi 97, vi 110] τ1 (fun r2 τ2 =>
      lR (τ1 md_word 0) ∧ lR r2 ∧ iR (cmp3 (τ1 md_word 0) r2) ∧
      (¬ (cmp3 (τ1 md_word 0) r2) = 0 → TL X k6_code [vi 115, vi 112, vi 108, vi 105, vi 116, vi 0] τ2 (fun r3 τ3 =>
        lR (τ2 md_word 0) ∧ lR r3 ∧ iR (cmp3 (τ2 md_word 0) r3) ∧
        (¬ (cmp3 (τ2 md_word 0) r3) = 0 → TL X k6_code [vi 108, vi 97, vi 116, vi 101, vi 0, vi 0] τ3 (fun r4 τ4 =>
          lR (τ3 md_word 0) ∧ lR r4 ∧ iR (cmp3 (τ3 md_word 0) r4) ∧
          (¬ (cmp3 (τ3 md_word 0) r4) = 0 → TL X k6_code [vi 109, vi 111, vi 118, vi 101, vi 0, vi 0] τ4 (fun r5 τ5 =>
            lR (τ4 md_word 0) ∧ lR r5 ∧ iR (cmp3 (τ4 md_word 0) r5) ∧
            (¬ (cmp3 (τ4 md_word 0) r5) = 0 → iR s0 ∧
              (s0 < 0 → F (-1) τ5) ∧
              (¬ (s0 < 0) → F s0 τ5)) ∧
            (¬ (¬ (cmp3 (τ4 md_word 0) r5) = 0) → iR s0 ∧
              (s0 < 0 → F 8 τ5) ∧
              (¬ (s0 < 0) → F s0 τ5)))) ∧
          (¬ (¬ (cmp3 (τ3 md_word 0) r4) = 0) → iR s0 ∧
            (s0 < 0 → F 7 τ4) ∧
            (¬ (s0 < 0) → F s0 τ4)))) ∧
        (¬ (¬ (cmp3 (τ2 md_word 0) r3) = 0) → iR s0 ∧
          (s0 < 0 → F 6 τ3) ∧
          (¬ (s0 < 0) → F s0 τ3)))) ∧
      (¬ (¬ (cmp3 (τ1 md_word 0) r2) = 0) → iR s0 ∧
        (s0 < 0 → F 5 τ2) ∧
        (¬ (s0 < 0) → F s0 τ2)))) ∧
    (¬ (¬ (cmp3 (σ md_word 0) r1) = 0) → iR s0 ∧
      (s0 < 0 → F 4 τ1) ∧
      (¬ (s0 < 0) → F s0 τ1)))) : L6_keyOf_103 X σ s0 F := go_w 65 h
abbrev L6_readClause_91 (X : En) (σ : Wd) (x2 x4 x5 : Int) (F : Int → Wd → Prop) : Prop := Go X k6_readClause 91 [some (vr o_md), none, some (vi x2), none, some (vi x4), some (vi x5), none, none] [] σ (QI F)
abbrev L6_readClause_170 (X : En) (σ : Wd) (x2 x4 x5 : Int) (F : Int → Wd → Prop) : Prop := Go X k6_readClause 170 [some (vr o_md), none, some (vi x2), none, some (vi x4), some (vi x5), none, none] [] σ (QI F)
abbrev L6_readClause_194 (X : En) (σ : Wd) (x2 x4 x5 s0 : Int) (F : Int → Wd → Prop) : Prop := Go X k6_readClause 194 [some (vr o_md), none, some (vi x2), none, some (vi x4), some (vi x5), none, none] [vi s0] σ (QI F)
abbrev L6_readClause_230 (X : En) (σ : Wd) (x2 x4 x5 x6 s0 : Int) (F : Int → Wd → Prop) : Prop := Go X k6_readClause 230 [some (vr o_md), none, some (vi x2), none, some (vi x4), some (vi x5), some (vi x6), none] [vi s0] σ (QI F)
set_option maxRecDepth 10000 in
theorem e6_readClause {X : En} (hX : XV X) {σ : Wd} {x1 : Int} {F : Int → Wd → Prop} (h :
    TV X k6_readWord [vr o_md] σ (fun τ1 =>
    TI X k6_keyOf [vr o_md] τ1 (fun r2 τ2 =>
    iR r2 ∧
    (r2 < 0 → iR r2 ∧
      (0 ≤ r2 → TI X k6_fails [vr o_md, vi 3, vi (τ2 md_at0 0)] τ2 (fun r3 τ3 =>
        F r3 τ3)) ∧
      (¬ (0 ≤ r2) → TI X k6_fails [vr o_md, vi 1, vi (τ2 md_at0 0)] τ2 (fun r4 τ4 =>
        F r4 τ4))) ∧
    (¬ (r2 < 0) → iR (bAnd (bShr x1 r2) 1) ∧ iR 1 ∧
      (¬ (bAnd (bShr x1 r2) 1) = 1 → ∀ τ5, τ5 = wu τ2 md_at0 0 (τ2 md_wordEnd 0) →
        ∀ τ6, τ6 = wu τ5 md_keyRead 0 r2 →
        TI X k6_here [vr o_md] τ6 (fun r7 τ7 =>
        iR r7 ∧ TI X k6_in [vl r7, vl 48, vl 57] τ7 (fun r8 τ8 =>
        iR r8 ∧
        (¬ r8 = 0 → L6_readClause_91 X τ8 r2 (τ8 md_at0 0) 0 F) ∧
        (¬ (¬ r8 = 0) → TI X k6_fails [vr o_md, vi 1, vi (τ8 md_at0 0)] τ8 (fun r9 τ9 =>
          F r9 τ9))))) ∧
      (¬ (¬ (bAnd (bShr x1 r2) 1) = 1) → iR r2 ∧
        (0 ≤ r2 → TI X k6_fails [vr o_md, vi 3, vi (τ2 md_at0 0)] τ2 (fun r10 τ10 =>
          F r10 τ10)) ∧
        (¬ (0 ≤ r2) → TI X k6_fails [vr o_md, vi 1, vi (τ2 md_at0 0)] τ2 (fun r11 τ11 =>
          F r11 τ11))))))) : TI X k6_readClause [vr o_md, vi x1] σ F := tr_w hX 37 rfl rfl h
set_option maxRecDepth 10000 in
theorem c6_readClause_91 {X : En} {σ : Wd} {x2 x4 x5 : Int} {F : Int → Wd → Prop} (h :
    iR (σ md_at0 0) ∧ iR (σ md_texted 0) ∧
    ((σ md_texted 0) ≤ (σ md_at0 0) → L6_readClause_170 X σ x2 x4 x5 F) ∧
    (¬ ((σ md_texted 0) ≤ (σ md_at0 0)) → (0 ≤ (σ md_at0 0) ∧ (σ md_at0 0) < 160) ∧ iR (σ md_text (σ md_at0 0)) ∧ TI X k6_in [vl (σ md_text (σ md_at0 0)), vl 48, vl 57] σ (fun r1 τ1 =>
      iR r1 ∧
      (r1 = 0 → L6_readClause_170 X τ1 x2 x4 x5 F) ∧
      (¬ (r1 = 0) → iR x5 ∧ iR 10000 ∧
        (x5 ≤ 10000 → (0 ≤ (τ1 md_at0 0) ∧ (τ1 md_at0 0) < 160) ∧ ∀ τ2, τ2 = wu τ1 md_at0 0 ((τ1 md_at0 0) + 1) →
          L6_readClause_91 X τ2 x2 x4 (((10 * x5) + (τ1 md_text (τ1 md_at0 0))) - 48) F) ∧
        (¬ (x5 ≤ 10000) → ∀ τ3, τ3 = wu τ1 md_at0 0 ((τ1 md_at0 0) + 1) →
          L6_readClause_91 X τ3 x2 x4 x5 F))))) : L6_readClause_91 X σ x2 x4 x5 F := go_w 39 h
set_option maxRecDepth 10000 in
theorem c6_readClause_170 {X : En} {σ : Wd} {x2 x4 x5 : Int} {F : Int → Wd → Prop} (h :
    iR x2 ∧
    (¬ x2 = 0 → iR x2 ∧ iR 2 ∧
      (x2 = 2 → L6_readClause_194 X σ x2 x4 x5 1 F) ∧
      (¬ (x2 = 2) → iR x2 ∧ iR 3 ∧
        (¬ x2 = 3 → L6_readClause_194 X σ x2 x4 x5 0 F) ∧
        (¬ (¬ x2 = 3) → L6_readClause_194 X σ x2 x4 x5 1 F))) ∧
    (¬ (¬ x2 = 0) → L6_readClause_194 X σ x2 x4 x5 6 F)) : L6_readClause_170 X σ x2 x4 x5 F := go_w 12 h
set_option maxRecDepth 10000 in
theorem c6_readClause_194 {X : En} {σ : Wd} {x2 x4 x5 s0 : Int} {F : Int → Wd → Prop} (h :
    iR x2 ∧
    (¬ x2 = 0 → iR x2 ∧ iR 1 ∧
      (¬ x2 = 1 → iR x2 ∧ iR 2 ∧
        (x2 = 2 → L6_readClause_230 X σ x2 x4 x5 s0 5 F) ∧
        (¬ (x2 = 2) → iR x2 ∧ iR 3 ∧
          (¬ x2 = 3 → L6_readClause_230 X σ x2 x4 x5 s0 99 F) ∧
          (¬ (¬ x2 = 3) → L6_readClause_230 X σ x2 x4 x5 s0 5 F))) ∧
      (¬ (¬ x2 = 1) → L6_readClause_230 X σ x2 x4 x5 s0 3 F)) ∧
    (¬ (¬ x2 = 0) → L6_readClause_230 X σ x2 x4 x5 s0 30 F)) : L6_readClause_194 X σ x2 x4 x5 s0 F := go_w 16 h
set_option maxRecDepth 10000 in
theorem c6_readClause_230 {X : En} {σ : Wd} {x2 x4 x5 x6 s0 : Int} {F : Int → Wd → Prop} (h :
    iR ((σ md_at0 0) - x4) ∧ iR 2 ∧
    (2 < ((σ md_at0 0) - x4) → TI X k6_fails [vr o_md, vi 2, vi x4] σ (fun r1 τ1 =>
      F r1 τ1)) ∧
    (¬ (2 < ((σ md_at0 0) - x4)) → iR x5 ∧ iR x6 ∧ iR s0 ∧ TI X k6_in [vl x5, vl x6, vl s0] σ (fun r2 τ2 =>
      iR r2 ∧
      (¬ r2 = 0 → (0 ≤ x2 ∧ x2 < 9) ∧ ∀ τ3, τ3 = wu τ2 md_fresh x2 x5 →
        TI X k6_here [vr o_md] τ3 (fun r4 τ4 =>
        iR r4 ∧ iR 59 ∧
        (r4 = 59 → ∀ τ5, τ5 = wu τ4 md_at0 0 ((τ4 md_at0 0) + 1) →
          F 0 τ5) ∧
        (¬ (r4 = 59) → TI X k6_fails [vr o_md, vi 1, vi (τ4 md_at0 0)] τ4 (fun r6 τ6 =>
          F r6 τ6)))) ∧
      (¬ (¬ r2 = 0) → TI X k6_fails [vr o_md, vi 2, vi x4] τ2 (fun r7 τ7 =>
        F r7 τ7))))) : L6_readClause_230 X σ x2 x4 x5 x6 s0 F := go_w 33 h
abbrev L6_read_20 (X : En) (σ : Wd) (x1 x2 x3 : Int) (F : Int → Wd → Prop) : Prop := Go X k6_read 20 [some (vr o_md), some (vi x1), some (vi x2), some (vi x3)] [] σ (QI F)
set_option maxRecDepth 10000 in
theorem e6_read {X : En} (hX : XV X) {σ : Wd} {F : Int → Wd → Prop} (h :
    ∀ τ1, τ1 = wu σ md_faultPlace 0 (-1) →
    ∀ τ2, τ2 = wu τ1 md_at0 0 0 →
    TV X k6_first [vr o_md] τ2 (fun τ3 =>
    L6_read_20 X τ3 0 0 0 F)) : TI X k6_read [vr o_md] σ F := tr_w hX 16 rfl rfl h
set_option maxRecDepth 10000 in
theorem c6_read_20 {X : En} {σ : Wd} {x1 x2 x3 : Int} {F : Int → Wd → Prop} (h :
    iR x3 ∧
    (¬ x3 = 0 → ∀ τ1, τ1 = wu σ md_texted 0 0 →
      iR x3 ∧
      (x3 ≤ 0 → TV X k6_keepRules [vr o_md] τ1 (fun τ2 =>
        F x2 τ2)) ∧
      (¬ (x3 ≤ 0) → F ((-10) - x3) τ1)) ∧
    (¬ (¬ x3 = 0) → TI X k6_here [vr o_md] σ (fun r3 τ3 =>
      iR r3 ∧
      (r3 < 0 → ∀ τ4, τ4 = wu τ3 md_texted 0 0 →
        iR x3 ∧
        (x3 ≤ 0 → TV X k6_keepRules [vr o_md] τ4 (fun τ5 =>
          F x2 τ5)) ∧
        (¬ (x3 ≤ 0) → F ((-10) - x3) τ4)) ∧
      (¬ (r3 < 0) → TI X k6_readClause [vr o_md, vi x1] τ3 (fun r6 τ6 =>
        L6_read_20 X τ6 (bOr x1 (bShl 1 (τ6 md_keyRead 0))) (x2 + 1) r6 F))))) : L6_read_20 X σ x1 x2 x3 F := go_w 20 h
set_option maxRecDepth 10000 in
theorem e6_fault {X : En} (hX : XV X) {σ : Wd} {F : Int → Wd → Prop} (h :
    F (σ md_faultPlace 0) σ) : TI X k6_fault [vr o_md] σ F := tr_w hX 4 rfl rfl h
set_option maxRecDepth 10000 in
theorem e6_rule {X : En} (hX : XV X) {σ : Wd} {x1 : Int} {F : Int → Wd → Prop} (h :
    iR x1 ∧ TI X k6_in [vl x1, vl 0, vl 8] σ (fun r1 τ1 =>
    iR r1 ∧
    (r1 = 0 → F (-1002) τ1) ∧
    (¬ (r1 = 0) → (0 ≤ x1 ∧ x1 < 9) ∧ F (τ1 md_rules x1) τ1))) : TI X k6_rule [vr o_md, vi x1] σ F := tr_w hX 13 rfl rfl h
abbrev L6_findLines_7 (X : En) (σ : Wd) (x1 : Int) (F : Wd → Prop) : Prop := Go X k6_findLines 7 [some (vr o_md), some (vi x1), none] [] σ (QV F)
abbrev L6_findLines_17 (X : En) (σ : Wd) (x1 x2 : Int) (F : Wd → Prop) : Prop := Go X k6_findLines 17 [some (vr o_md), some (vi x1), some (vi x2)] [] σ (QV F)
set_option maxRecDepth 10000 in
theorem e6_findLines {X : En} (hX : XV X) {σ : Wd} {F : Wd → Prop} (h :
    ∀ τ1, τ1 = wu σ md_lines 0 0 →
    L6_findLines_7 X τ1 0 F) : TV X k6_findLines [vr o_md] σ F := tr_w hX 7 rfl rfl h
set_option maxRecDepth 10000 in
theorem c6_findLines_7 {X : En} {σ : Wd} {x1 : Int} {F : Wd → Prop} (h :
    iR x1 ∧ iR (σ md_paragraphs 0) ∧
    ((σ md_paragraphs 0) ≤ x1 → ((0 : Int) = 0 ∨ (0 : Int) = 1) ∧ ∀ τ1, τ1 = wu σ md_isFound 0 0 →
      F τ1) ∧
    (¬ ((σ md_paragraphs 0) ≤ x1) → L6_findLines_17 X σ x1 0 F)) : L6_findLines_7 X σ x1 F := go_w 9 h
set_option maxRecDepth 10000 in
theorem c6_findLines_17 {X : En} {σ : Wd} {x1 x2 : Int} {F : Wd → Prop} (h :
    (0 ≤ x1 ∧ x1 < 16) ∧ iR x2 ∧ iR (σ md_sizes x1) ∧
    ((σ md_sizes x1) ≤ x2 → L6_findLines_7 X σ (x1 + 1) F) ∧
    (¬ ((σ md_sizes x1) ≤ x2) → (0 ≤ (σ md_lines 0) ∧ (σ md_lines 0) < 50) ∧ ∀ τ1, τ1 = wu σ md_paragraphOf (σ md_lines 0) x1 →
      (0 ≤ (τ1 md_lines 0) ∧ (τ1 md_lines 0) < 50) ∧ ∀ τ2, τ2 = wu τ1 md_placeOf (τ1 md_lines 0) x2 →
      ∀ τ3, τ3 = wu τ2 md_lines 0 ((τ2 md_lines 0) + 1) →
      L6_findLines_17 X τ3 x1 (x2 + 1) F)) : L6_findLines_17 X σ x1 x2 F := go_w 28 h
set_option maxRecDepth 10000 in
theorem e6_paragraph {X : En} (hX : XV X) {σ : Wd} {x1 x2 : Int} {F : Int → Wd → Prop} (h :
    iR x1 ∧ TI X k6_in [vl x1, vl 0, vl 1] σ (fun r1 τ1 =>
    iR r1 ∧
    (r1 = 0 → F (-1002) τ1) ∧
    (¬ (r1 = 0) → iR x2 ∧ TI X k6_in [vl x2, vl 1, vl 9] τ1 (fun r2 τ2 =>
      iR r2 ∧
      (¬ r2 = 0 → iR (τ2 md_paragraphs 0) ∧ iR 16 ∧
        ((τ2 md_paragraphs 0) = 16 → F (-1004) τ2) ∧
        (¬ ((τ2 md_paragraphs 0) = 16) → iR ((τ2 md_lines 0) + x2) ∧ iR 50 ∧
          (((τ2 md_lines 0) + x2) ≤ 50 → (0 ≤ (τ2 md_paragraphs 0) ∧ (τ2 md_paragraphs 0) < 16) ∧ ∀ τ3, τ3 = wu τ2 md_kinds (τ2 md_paragraphs 0) x1 →
            (0 ≤ (τ3 md_paragraphs 0) ∧ (τ3 md_paragraphs 0) < 16) ∧ ∀ τ4, τ4 = wu τ3 md_sizes (τ3 md_paragraphs 0) x2 →
            ∀ τ5, τ5 = wu τ4 md_paragraphs 0 ((τ4 md_paragraphs 0) + 1) →
            TV X k6_findLines [vr o_md] τ5 (fun τ6 =>
            F ((τ6 md_paragraphs 0) - 1) τ6)) ∧
          (¬ (((τ2 md_lines 0) + x2) ≤ 50) → F (-1004) τ2))) ∧
      (¬ (¬ r2 = 0) → F (-1002) τ2))))) : TI X k6_paragraph [vr o_md, vi x1, vi x2] σ F := tr_w hX 48 rfl rfl h
abbrev L6_clamp_2 (X : En) (σ : Wd) (x1 x2 : Int) (F : Wd → Prop) : Prop := Go X k6_clamp 2 [some (vr o_md), some (vi x1), some (vi x2)] [] σ (QV F)
abbrev L6_clamp_66 (X : En) (σ : Wd) (x1 x2 : Int) (F : Wd → Prop) : Prop := Go X k6_clamp 66 [some (vr o_md), some (vi x1), some (vi x2)] [] σ (QV F)
set_option maxRecDepth 10000 in
theorem e6_clamp {X : En} (hX : XV X) {σ : Wd} {x1 : Int} {F : Wd → Prop} (h :
    L6_clamp_2 X σ x1 0 F) : TV X k6_clamp [vr o_md, vi x1] σ F := tr_w hX 4 rfl rfl h
set_option maxRecDepth 10000 in
theorem c6_clamp_2 {X : En} {σ : Wd} {x1 x2 : Int} {F : Wd → Prop} (h :
    iR x2 ∧ iR (σ md_notes 0) ∧
    ((σ md_notes 0) ≤ x2 → L6_clamp_66 X σ x1 0 F) ∧
    (¬ ((σ md_notes 0) ≤ x2) → (0 ≤ x2 ∧ x2 < 20) ∧ iR (σ md_noteParagraph x2) ∧ iR x1 ∧
      (¬ (σ md_noteParagraph x2) = x1 → (0 ≤ x2 ∧ x2 < 20) ∧ (0 ≤ x2 ∧ x2 < 20) ∧ ∀ τ1, τ1 = wu σ md_notePlace x2 (σ md_notePlace x2) →
        L6_clamp_2 X τ1 x1 (x2 + 1) F) ∧
      (¬ (¬ (σ md_noteParagraph x2) = x1) → (0 ≤ x2 ∧ x2 < 20) ∧ (0 ≤ x1 ∧ x1 < 16) ∧ iR (σ md_notePlace x2) ∧ iR (σ md_sizes x1) ∧
        ((σ md_notePlace x2) < (σ md_sizes x1) → (0 ≤ x2 ∧ x2 < 20) ∧ (0 ≤ x2 ∧ x2 < 20) ∧ ∀ τ2, τ2 = wu σ md_notePlace x2 (σ md_notePlace x2) →
          L6_clamp_2 X τ2 x1 (x2 + 1) F) ∧
        (¬ ((σ md_notePlace x2) < (σ md_sizes x1)) → (0 ≤ x1 ∧ x1 < 16) ∧ (0 ≤ x2 ∧ x2 < 20) ∧ ∀ τ3, τ3 = wu σ md_notePlace x2 ((σ md_sizes x1) - 1) →
          L6_clamp_2 X τ3 x1 (x2 + 1) F)))) : L6_clamp_2 X σ x1 x2 F := go_w 34 h
set_option maxRecDepth 10000 in
theorem c6_clamp_66 {X : En} {σ : Wd} {x1 x2 : Int} {F : Wd → Prop} (h :
    iR x2 ∧ iR (σ md_figures 0) ∧
    ((σ md_figures 0) ≤ x2 → F σ) ∧
    (¬ ((σ md_figures 0) ≤ x2) → (0 ≤ x2 ∧ x2 < 4) ∧ iR (σ md_figureParagraph x2) ∧ iR x1 ∧
      (¬ (σ md_figureParagraph x2) = x1 → (0 ≤ x2 ∧ x2 < 4) ∧ (0 ≤ x2 ∧ x2 < 4) ∧ ∀ τ1, τ1 = wu σ md_figurePlace x2 (σ md_figurePlace x2) →
        L6_clamp_66 X τ1 x1 (x2 + 1) F) ∧
      (¬ (¬ (σ md_figureParagraph x2) = x1) → (0 ≤ x2 ∧ x2 < 4) ∧ (0 ≤ x1 ∧ x1 < 16) ∧ iR (σ md_figurePlace x2) ∧ iR (σ md_sizes x1) ∧
        ((σ md_figurePlace x2) < (σ md_sizes x1) → (0 ≤ x2 ∧ x2 < 4) ∧ (0 ≤ x2 ∧ x2 < 4) ∧ ∀ τ2, τ2 = wu σ md_figurePlace x2 (σ md_figurePlace x2) →
          L6_clamp_66 X τ2 x1 (x2 + 1) F) ∧
        (¬ ((σ md_figurePlace x2) < (σ md_sizes x1)) → (0 ≤ x1 ∧ x1 < 16) ∧ (0 ≤ x2 ∧ x2 < 4) ∧ ∀ τ3, τ3 = wu σ md_figurePlace x2 ((σ md_sizes x1) - 1) →
          L6_clamp_66 X τ3 x1 (x2 + 1) F)))) : L6_clamp_66 X σ x1 x2 F := go_w 34 h
set_option maxRecDepth 10000 in
theorem e6_change {X : En} (hX : XV X) {σ : Wd} {x1 x2 : Int} {F : Int → Wd → Prop} (h :
    iR x1 ∧ iR ((σ md_paragraphs 0) - 1) ∧ TI X k6_in [vl x1, vl 0, vl ((σ md_paragraphs 0) - 1)] σ (fun r1 τ1 =>
    iR r1 ∧
    (¬ r1 = 0 → iR x2 ∧ TI X k6_in [vl x2, vl 1, vl 9] τ1 (fun r2 τ2 =>
      iR r2 ∧
      (¬ r2 = 0 → (0 ≤ x1 ∧ x1 < 16) ∧ iR (((τ2 md_lines 0) - (τ2 md_sizes x1)) + x2) ∧ iR 50 ∧
        ((((τ2 md_lines 0) - (τ2 md_sizes x1)) + x2) ≤ 50 → (0 ≤ x1 ∧ x1 < 16) ∧ (0 ≤ x1 ∧ x1 < 16) ∧ ∀ τ3, τ3 = wu τ2 md_sizes x1 x2 →
          TV X k6_clamp [vr o_md, vi x1] τ3 (fun τ4 =>
          TV X k6_findLines [vr o_md] τ4 (fun τ5 =>
          F (τ2 md_sizes x1) τ5))) ∧
        (¬ ((((τ2 md_lines 0) - (τ2 md_sizes x1)) + x2) ≤ 50) → F (-1004) τ2)) ∧
      (¬ (¬ r2 = 0) → F (-1002) τ2))) ∧
    (¬ (¬ r1 = 0) → F (-1001) τ1))) : TI X k6_change [vr o_md, vi x1, vi x2] σ F := tr_w hX 45 rfl rfl h
set_option maxRecDepth 10000 in
theorem e6_isLine {X : En} (hX : XV X) {σ : Wd} {x1 : Int} {F : Int → Wd → Prop} (h :
    iR x1 ∧ iR ((σ md_lines 0) - 1) ∧ TI X k6_in [vl x1, vl 0, vl ((σ md_lines 0) - 1)] σ (fun r1 τ1 =>
    (r1 = 0 ∨ r1 = 1) ∧ F r1 τ1)) : TI X k6_isLine [vr o_md, vi x1] σ F := tr_w hX 11 rfl rfl h
set_option maxRecDepth 10000 in
theorem e6_isNote {X : En} (hX : XV X) {σ : Wd} {x1 : Int} {F : Int → Wd → Prop} (h :
    iR x1 ∧ iR ((σ md_notes 0) - 1) ∧ TI X k6_in [vl x1, vl 0, vl ((σ md_notes 0) - 1)] σ (fun r1 τ1 =>
    (r1 = 0 ∨ r1 = 1) ∧ F r1 τ1)) : TI X k6_isNote [vr o_md, vi x1] σ F := tr_w hX 11 rfl rfl h
set_option maxRecDepth 10000 in
theorem e6_note {X : En} (hX : XV X) {σ : Wd} {x1 x2 x3 : Int} {F : Int → Wd → Prop} (h :
    TI X k6_isLine [vr o_md, vi x1] σ (fun r1 τ1 =>
    iR r1 ∧
    (¬ r1 = 0 → iR x2 ∧ TI X k6_in [vl x2, vl 0, vl 2] τ1 (fun r2 τ2 =>
      iR r2 ∧
      (r2 = 0 → F (-1002) τ2) ∧
      (¬ (r2 = 0) → iR x3 ∧ TI X k6_in [vl x3, vl 1, vl 9] τ2 (fun r3 τ3 =>
        iR r3 ∧
        (¬ r3 = 0 → iR (τ3 md_notes 0) ∧ iR 20 ∧
          (¬ (τ3 md_notes 0) = 20 → (0 ≤ x1 ∧ x1 < 50) ∧ (0 ≤ (τ3 md_notes 0) ∧ (τ3 md_notes 0) < 20) ∧ ∀ τ4, τ4 = wu τ3 md_noteParagraph (τ3 md_notes 0) (τ3 md_paragraphOf x1) →
            (0 ≤ x1 ∧ x1 < 50) ∧ (0 ≤ (τ4 md_notes 0) ∧ (τ4 md_notes 0) < 20) ∧ ∀ τ5, τ5 = wu τ4 md_notePlace (τ4 md_notes 0) (τ4 md_placeOf x1) →
            (0 ≤ (τ5 md_notes 0) ∧ (τ5 md_notes 0) < 20) ∧ ∀ τ6, τ6 = wu τ5 md_bands (τ5 md_notes 0) x2 →
            (0 ≤ (τ6 md_notes 0) ∧ (τ6 md_notes 0) < 20) ∧ ∀ τ7, τ7 = wu τ6 md_noteRows (τ6 md_notes 0) x3 →
            (0 ≤ (τ7 md_notes 0) ∧ (τ7 md_notes 0) < 20) ∧ ∀ τ8, τ8 = wu τ7 md_refers (τ7 md_notes 0) (-1) →
            (0 ≤ (τ8 md_notes 0) ∧ (τ8 md_notes 0) < 20) ∧ ((0 : Int) = 0 ∨ (0 : Int) = 1) ∧ ∀ τ9, τ9 = wu τ8 md_isGrown (τ8 md_notes 0) 0 →
            ∀ τ10, τ10 = wu τ9 md_notes 0 ((τ9 md_notes 0) + 1) →
            ((0 : Int) = 0 ∨ (0 : Int) = 1) ∧ ∀ τ11, τ11 = wu τ10 md_isFound 0 0 →
            F ((τ11 md_notes 0) - 1) τ11) ∧
          (¬ (¬ (τ3 md_notes 0) = 20) → F (-1004) τ3)) ∧
        (¬ (¬ r3 = 0) → F (-1002) τ3))))) ∧
    (¬ (¬ r1 = 0) → F (-1001) τ1))) : TI X k6_note [vr o_md, vi x1, vi x2, vi x3] σ F := tr_w hX 77 rfl rfl h
abbrev L6_refer_21 (X : En) (σ : Wd) (x1 x2 : Int) (F : Int → Wd → Prop) : Prop := Go X k6_refer 21 [some (vr o_md), some (vi x1), some (vi x2), none] [] σ (QI F)
set_option maxRecDepth 10000 in
theorem e6_refer {X : En} (hX : XV X) {σ : Wd} {x1 x2 : Int} {F : Int → Wd → Prop} (h :
    TI X k6_isNote [vr o_md, vi x1] σ (fun r1 τ1 =>
    iR r1 ∧
    (r1 = 0 → F (-1001) τ1) ∧
    (¬ (r1 = 0) → iR x2 ∧ iR (-1) ∧
      (x2 = (-1) → L6_refer_21 X τ1 x1 x2 F) ∧
      (¬ (x2 = (-1)) → TI X k6_isNote [vr o_md, vi x2] τ1 (fun r2 τ2 =>
        iR r2 ∧
        (r2 = 0 → F (-1001) τ2) ∧
        (¬ (r2 = 0) → L6_refer_21 X τ2 x1 x2 F)))))) : TI X k6_refer [vr o_md, vi x1, vi x2] σ F := tr_w hX 14 rfl rfl h
set_option maxRecDepth 10000 in
theorem c6_refer_21 {X : En} {σ : Wd} {x1 x2 : Int} {F : Int → Wd → Prop} (h :
    iR x1 ∧ iR x2 ∧
    (¬ x1 = x2 → (0 ≤ x1 ∧ x1 < 20) ∧ (0 ≤ x1 ∧ x1 < 20) ∧ ∀ τ1, τ1 = wu σ md_refers x1 x2 →
      (0 ≤ x1 ∧ x1 < 20) ∧ ((0 : Int) = 0 ∨ (0 : Int) = 1) ∧ ∀ τ2, τ2 = wu τ1 md_isGrown x1 0 →
      ((0 : Int) = 0 ∨ (0 : Int) = 1) ∧ ∀ τ3, τ3 = wu τ2 md_isFound 0 0 →
      F (σ md_refers x1) τ3) ∧
    (¬ (¬ x1 = x2) → F (-1001) σ)) : L6_refer_21 X σ x1 x2 F := go_w 24 h
abbrev L6_lineOf_5 (X : En) (σ : Wd) (x1 x3 x4 : Int) (F : Int → Wd → Prop) : Prop := Go X k6_lineOf 5 [some (vr o_md), some (vi x1), none, some (vi x3), some (vi x4)] [] σ (QI F)
set_option maxRecDepth 10000 in
theorem e6_lineOf {X : En} (hX : XV X) {σ : Wd} {x1 x2 : Int} {F : Int → Wd → Prop} (h :
    L6_lineOf_5 X σ x1 x2 0 F) : TI X k6_lineOf [vr o_md, vi x1, vi x2] σ F := tr_w hX 6 rfl rfl h
set_option maxRecDepth 10000 in
theorem c6_lineOf_5 {X : En} {σ : Wd} {x1 x3 x4 : Int} {F : Int → Wd → Prop} (h :
    iR x4 ∧ iR x1 ∧
    (x1 ≤ x4 → F x3 σ) ∧
    (¬ (x1 ≤ x4) → (0 ≤ x4 ∧ x4 < 16) ∧ L6_lineOf_5 X σ x1 (x3 + (σ md_sizes x4)) (x4 + 1) F)) : L6_lineOf_5 X σ x1 x3 x4 F := go_w 14 h
set_option maxRecDepth 10000 in
theorem e6_noteLine {X : En} (hX : XV X) {σ : Wd} {x1 : Int} {F : Int → Wd → Prop} (h :
    (0 ≤ x1 ∧ x1 < 20) ∧ (0 ≤ x1 ∧ x1 < 20) ∧ TI X k6_lineOf [vr o_md, vi (σ md_noteParagraph x1), vi (σ md_notePlace x1)] σ (fun r1 τ1 =>
    F r1 τ1)) : TI X k6_noteLine [vr o_md, vi x1] σ F := tr_w hX 12 rfl rfl h
set_option maxRecDepth 10000 in
theorem e6_figureLine {X : En} (hX : XV X) {σ : Wd} {x1 : Int} {F : Int → Wd → Prop} (h :
    (0 ≤ x1 ∧ x1 < 4) ∧ (0 ≤ x1 ∧ x1 < 4) ∧ TI X k6_lineOf [vr o_md, vi (σ md_figureParagraph x1), vi (σ md_figurePlace x1)] σ (fun r1 τ1 =>
    F r1 τ1)) : TI X k6_figureLine [vr o_md, vi x1] σ F := tr_w hX 12 rfl rfl h
set_option maxRecDepth 10000 in
theorem e6_rowsOf {X : En} (hX : XV X) {σ : Wd} {x1 : Int} {F : Int → Wd → Prop} (h :
    (0 ≤ x1 ∧ x1 < 20) ∧ (0 ≤ x1 ∧ x1 < 20) ∧ iR (σ md_isGrown x1) ∧
    ((σ md_isGrown x1) = 0 → F ((σ md_noteRows x1) + 0) σ) ∧
    (¬ ((σ md_isGrown x1) = 0) → F ((σ md_noteRows x1) + 1) σ)) : TI X k6_rowsOf [vr o_md, vi x1] σ F := tr_w hX 14 rfl rfl h
abbrev L6_figure_53 (X : En) (σ : Wd) (x1 x2 : Int) (F : Int → Wd → Prop) : Prop := Go X k6_figure 53 [some (vr o_md), some (vi x1), some (vi x2)] [] σ (QI F)
set_option maxRecDepth 10000 in
theorem e6_figure {X : En} (hX : XV X) {σ : Wd} {x1 x2 : Int} {F : Int → Wd → Prop} (h :
    TI X k6_isLine [vr o_md, vi x1] σ (fun r1 τ1 =>
    iR r1 ∧
    (¬ r1 = 0 → iR x2 ∧ TI X k6_in [vl x2, vl 1, vl 20] τ1 (fun r2 τ2 =>
      iR r2 ∧
      (¬ r2 = 0 → iR (τ2 md_figures 0) ∧
        ((τ2 md_figures 0) ≤ 0 → L6_figure_53 X τ2 x1 x2 F) ∧
        (¬ ((τ2 md_figures 0) ≤ 0) → TI X k6_figureLine [vr o_md, vi ((τ2 md_figures 0) - 1)] τ2 (fun r3 τ3 =>
          iR x1 ∧ iR r3 ∧
          (r3 ≤ x1 → L6_figure_53 X τ3 x1 x2 F) ∧
          (¬ (r3 ≤ x1) → F (-1003) τ3)))) ∧
      (¬ (¬ r2 = 0) → F (-1002) τ2))) ∧
    (¬ (¬ r1 = 0) → F (-1001) τ1))) : TI X k6_figure [vr o_md, vi x1, vi x2] σ F := tr_w hX 24 rfl rfl h
set_option maxRecDepth 10000 in
theorem c6_figure_53 {X : En} {σ : Wd} {x1 x2 : Int} {F : Int → Wd → Prop} (h :
    iR (σ md_figures 0) ∧ iR 4 ∧
    (¬ (σ md_figures 0) = 4 → (0 ≤ x1 ∧ x1 < 50) ∧ (0 ≤ (σ md_figures 0) ∧ (σ md_figures 0) < 4) ∧ ∀ τ1, τ1 = wu σ md_figureParagraph (σ md_figures 0) (σ md_paragraphOf x1) →
      (0 ≤ x1 ∧ x1 < 50) ∧ (0 ≤ (τ1 md_figures 0) ∧ (τ1 md_figures 0) < 4) ∧ ∀ τ2, τ2 = wu τ1 md_figurePlace (τ1 md_figures 0) (τ1 md_placeOf x1) →
      (0 ≤ (τ2 md_figures 0) ∧ (τ2 md_figures 0) < 4) ∧ ∀ τ3, τ3 = wu τ2 md_figureRows (τ2 md_figures 0) x2 →
      ∀ τ4, τ4 = wu τ3 md_figures 0 ((τ3 md_figures 0) + 1) →
      ((0 : Int) = 0 ∨ (0 : Int) = 1) ∧ ∀ τ5, τ5 = wu τ4 md_isFound 0 0 →
      F ((τ5 md_figures 0) - 1) τ5) ∧
    (¬ (¬ (σ md_figures 0) = 4) → F (-1004) σ)) : L6_figure_53 X σ x1 x2 F := go_w 43 h
abbrev L6_count_4 (X : En) (σ : Wd) (x1 x2 x3 : Int) (F : Int → Wd → Prop) : Prop := Go X k6_count 4 [some (vr o_md), some (vi x1), some (vi x2), some (vi x3)] [] σ (QI F)
set_option maxRecDepth 10000 in
theorem e6_count {X : En} (hX : XV X) {σ : Wd} {x1 : Int} {F : Int → Wd → Prop} (h :
    L6_count_4 X σ x1 0 0 F) : TI X k6_count [vr o_md, vi x1] σ F := tr_w hX 6 rfl rfl h
set_option maxRecDepth 10000 in
theorem c6_count_4 {X : En} {σ : Wd} {x1 x2 x3 : Int} {F : Int → Wd → Prop} (h :
    iR x3 ∧ iR (σ md_notes 0) ∧
    ((σ md_notes 0) ≤ x3 → iR x1 ∧
      ((x1 = 0 → F (σ md_paragraphs 0) σ) ∧
      (x1 = 1 → F (σ md_lines 0) σ) ∧
      (x1 = 2 → F (σ md_notes 0) σ) ∧
      (x1 = 3 → F (σ md_figures 0) σ) ∧
      (x1 = 4 → F (σ md_texted 0) σ) ∧
      (x1 = 5 → F x2 σ) ∧
      True) ∧
      (x1 < 0 ∨ 6 ≤ x1 → F (-1002) σ)) ∧
    (¬ ((σ md_notes 0) ≤ x3) → (0 ≤ x3 ∧ x3 < 20) ∧ iR (σ md_isGrown x3) ∧
      ((σ md_isGrown x3) = 0 → L6_count_4 X σ x1 (x2 + 0) (x3 + 1) F) ∧
      (¬ ((σ md_isGrown x3) = 0) → L6_count_4 X σ x1 (x2 + 1) (x3 + 1) F))) : L6_count_4 X σ x1 x2 x3 F := go_w 18 h
abbrev L6_line_17 (X : En) (σ : Wd) (x1 x2 x3 x4 : Int) (F : Int → Wd → Prop) : Prop := Go X k6_line 17 [some (vr o_md), some (vi x1), some (vi x2), some (vi x3), some (vi x4)] [] σ (QI F)
abbrev L6_line_58 (X : En) (σ : Wd) (x1 x2 x3 x4 : Int) (F : Int → Wd → Prop) : Prop := Go X k6_line 58 [some (vr o_md), some (vi x1), some (vi x2), some (vi x3), some (vi x4)] [] σ (QI F)
abbrev L6_line_96 (X : En) (σ : Wd) (x1 x2 x3 : Int) (F : Int → Wd → Prop) : Prop := Go X k6_line 96 [some (vr o_md), some (vi x1), some (vi x2), some (vi x3), none] [] σ (QI F)
set_option maxRecDepth 10000 in
theorem e6_line {X : En} (hX : XV X) {σ : Wd} {x1 x2 : Int} {F : Int → Wd → Prop} (h :
    TI X k6_isLine [vr o_md, vi x1] σ (fun r1 τ1 =>
    iR r1 ∧
    (¬ r1 = 0 → L6_line_17 X τ1 x1 x2 0 0 F) ∧
    (¬ (¬ r1 = 0) → F (-1001) τ1))) : TI X k6_line [vr o_md, vi x1, vi x2] σ F := tr_w hX 10 rfl rfl h
set_option maxRecDepth 10000 in
theorem c6_line_17 {X : En} {σ : Wd} {x1 x2 x3 x4 : Int} {F : Int → Wd → Prop} (h :
    iR x4 ∧ iR (σ md_notes 0) ∧
    ((σ md_notes 0) ≤ x4 → L6_line_58 X σ x1 x2 x3 0 F) ∧
    (¬ ((σ md_notes 0) ≤ x4) → iR x2 ∧ iR 2 ∧
      (¬ x2 = 2 → L6_line_58 X σ x1 x2 x3 0 F) ∧
      (¬ (¬ x2 = 2) → TI X k6_noteLine [vr o_md, vi x4] σ (fun r1 τ1 =>
        iR r1 ∧ iR x1 ∧
        (¬ r1 = x1 → L6_line_17 X τ1 x1 x2 (x3 + 0) (x4 + 1) F) ∧
        (¬ (¬ r1 = x1) → L6_line_17 X τ1 x1 x2 (x3 + 1) (x4 + 1) F))))) : L6_line_17 X σ x1 x2 x3 x4 F := go_w 21 h
set_option maxRecDepth 10000 in
theorem c6_line_58 {X : En} {σ : Wd} {x1 x2 x3 x4 : Int} {F : Int → Wd → Prop} (h :
    iR x4 ∧ iR (σ md_figures 0) ∧
    ((σ md_figures 0) ≤ x4 → L6_line_96 X σ x1 x2 x3 F) ∧
    (¬ ((σ md_figures 0) ≤ x4) → iR x2 ∧ iR 3 ∧
      (¬ x2 = 3 → L6_line_96 X σ x1 x2 x3 F) ∧
      (¬ (¬ x2 = 3) → TI X k6_figureLine [vr o_md, vi x4] σ (fun r1 τ1 =>
        iR r1 ∧ iR x1 ∧
        (¬ r1 = x1 → L6_line_58 X τ1 x1 x2 (x3 + 0) (x4 + 1) F) ∧
        (¬ (¬ r1 = x1) → L6_line_58 X τ1 x1 x2 (x3 + 1) (x4 + 1) F))))) : L6_line_58 X σ x1 x2 x3 x4 F := go_w 21 h
set_option maxRecDepth 10000 in
theorem c6_line_96 {X : En} {σ : Wd} {x1 x2 x3 : Int} {F : Int → Wd → Prop} (h :
    iR x2 ∧
    (¬ x2 = 0 → iR x2 ∧ iR 1 ∧
      (¬ x2 = 1 → iR x2 ∧ TI X k6_in [vl x2, vl 2, vl 3] σ (fun r1 τ1 =>
        iR r1 ∧
        (r1 = 0 → F (-1002) τ1) ∧
        (¬ (r1 = 0) → F x3 τ1))) ∧
      (¬ (¬ x2 = 1) → (0 ≤ x1 ∧ x1 < 50) ∧ F (σ md_placeOf x1) σ)) ∧
    (¬ (¬ x2 = 0) → (0 ≤ x1 ∧ x1 < 50) ∧ F (σ md_paragraphOf x1) σ)) : L6_line_96 X σ x1 x2 x3 F := go_w 15 h
set_option maxRecDepth 10000 in
theorem e6_told {X : En} (hX : XV X) {σ : Wd} {x1 x2 : Int} {F : Int → Wd → Prop} (h :
    TI X k6_isNote [vr o_md, vi x1] σ (fun r1 τ1 =>
    iR r1 ∧
    (¬ r1 = 0 → iR x2 ∧
      ((x2 = 0 → TI X k6_noteLine [vr o_md, vi x1] τ1 (fun r2 τ2 =>
        F r2 τ2)) ∧
      (x2 = 1 → (0 ≤ x1 ∧ x1 < 20) ∧ F (τ1 md_bands x1) τ1) ∧
      (x2 = 2 → TI X k6_rowsOf [vr o_md, vi x1] τ1 (fun r3 τ3 =>
        F r3 τ3)) ∧
      (x2 = 3 → (0 ≤ x1 ∧ x1 < 20) ∧ F (τ1 md_refers x1) τ1) ∧
      (x2 = 4 → (0 ≤ x1 ∧ x1 < 20) ∧ iR (τ1 md_isGrown x1) ∧
        ((τ1 md_isGrown x1) = 0 → F 0 τ1) ∧
        (¬ ((τ1 md_isGrown x1) = 0) → F 1 τ1)) ∧
      True) ∧
      (x2 < 0 ∨ 5 ≤ x2 → F (-1002) τ1)) ∧
    (¬ (¬ r1 = 0) → F (-1001) τ1))) : TI X k6_told [vr o_md, vi x1, vi x2] σ F := tr_w hX 15 rfl rfl h
abbrev L6_findOrder_2 (X : En) (σ : Wd) (x1 : Int) (F : Wd → Prop) : Prop := Go X k6_findOrder 2 [some (vr o_md), some (vi x1), none, none] [] σ (QV F)
abbrev L6_findOrder_16 (X : En) (σ : Wd) (x1 x2 : Int) (F : Wd → Prop) : Prop := Go X k6_findOrder 16 [some (vr o_md), some (vi x1), some (vi x2), none] [] σ (QV F)
abbrev L6_findOrder_26 (X : En) (σ : Wd) (x1 x2 x3 : Int) (F : Wd → Prop) : Prop := Go X k6_findOrder 26 [some (vr o_md), some (vi x1), some (vi x2), some (vi x3)] [] σ (QV F)
abbrev L6_findOrder_117 (X : En) (σ : Wd) (x1 : Int) (F : Wd → Prop) : Prop := Go X k6_findOrder 117 [some (vr o_md), some (vi x1), none, none] [] σ (QV F)
set_option maxRecDepth 10000 in
theorem e6_findOrder {X : En} (hX : XV X) {σ : Wd} {F : Wd → Prop} (h :
    L6_findOrder_2 X σ 0 F) : TV X k6_findOrder [vr o_md] σ F := tr_w hX 4 rfl rfl h
set_option maxRecDepth 10000 in
theorem c6_findOrder_2 {X : En} {σ : Wd} {x1 : Int} {F : Wd → Prop} (h :
    iR x1 ∧ iR 3 ∧
    (3 ≤ x1 → L6_findOrder_117 X σ 0 F) ∧
    (¬ (3 ≤ x1) → (0 ≤ x1 ∧ x1 < 3) ∧ ∀ τ1, τ1 = wu σ md_orderMany x1 0 →
      L6_findOrder_16 X τ1 x1 0 F)) : L6_findOrder_2 X σ x1 F := go_w 12 h
set_option maxRecDepth 10000 in
theorem c6_findOrder_16 {X : En} {σ : Wd} {x1 x2 : Int} {F : Wd → Prop} (h :
    iR x2 ∧ iR (σ md_lines 0) ∧
    ((σ md_lines 0) ≤ x2 → L6_findOrder_2 X σ (x1 + 1) F) ∧
    (¬ ((σ md_lines 0) ≤ x2) → L6_findOrder_26 X σ x1 x2 0 F)) : L6_findOrder_16 X σ x1 x2 F := go_w 8 h
set_option maxRecDepth 10000 in
theorem c6_findOrder_26 {X : En} {σ : Wd} {x1 x2 x3 : Int} {F : Wd → Prop} (h :
    iR x3 ∧ iR (σ md_notes 0) ∧
    ((σ md_notes 0) ≤ x3 → L6_findOrder_16 X σ x1 (x2 + 1) F) ∧
    (¬ ((σ md_notes 0) ≤ x3) → (0 ≤ x3 ∧ x3 < 20) ∧ iR (σ md_bands x3) ∧ iR x1 ∧
      (¬ (σ md_bands x3) = x1 → L6_findOrder_26 X σ x1 x2 (x3 + 1) F) ∧
      (¬ (¬ (σ md_bands x3) = x1) → TI X k6_noteLine [vr o_md, vi x3] σ (fun r1 τ1 =>
        iR r1 ∧ iR x2 ∧
        (¬ r1 = x2 → L6_findOrder_26 X τ1 x1 x2 (x3 + 1) F) ∧
        (¬ (¬ r1 = x2) → (0 ≤ x1 ∧ x1 < 3) ∧ (0 ≤ ((20 * x1) + (τ1 md_orderMany x1)) ∧ ((20 * x1) + (τ1 md_orderMany x1)) < 60) ∧ ∀ τ2, τ2 = wu τ1 md_order ((20 * x1) + (τ1 md_orderMany x1)) x3 →
          (0 ≤ x1 ∧ x1 < 3) ∧ (0 ≤ ((20 * x1) + (τ2 md_orderMany x1)) ∧ ((20 * x1) + (τ2 md_orderMany x1)) < 60) ∧ ∀ τ3, τ3 = wu τ2 md_orderLine ((20 * x1) + (τ2 md_orderMany x1)) x2 →
          (0 ≤ x1 ∧ x1 < 3) ∧ (0 ≤ x1 ∧ x1 < 3) ∧ ∀ τ4, τ4 = wu τ3 md_orderMany x1 ((τ3 md_orderMany x1) + 1) →
          L6_findOrder_26 X τ4 x1 x2 (x3 + 1) F))))) : L6_findOrder_26 X σ x1 x2 x3 F := go_w 51 h
set_option maxRecDepth 10000 in
theorem c6_findOrder_117 {X : En} {σ : Wd} {x1 : Int} {F : Wd → Prop} (h :
    iR x1 ∧ iR (σ md_figures 0) ∧
    ((σ md_figures 0) ≤ x1 → F σ) ∧
    (¬ ((σ md_figures 0) ≤ x1) → TI X k6_figureLine [vr o_md, vi x1] σ (fun r1 τ1 =>
      (0 ≤ x1 ∧ x1 < 4) ∧ ∀ τ2, τ2 = wu τ1 md_figureAt x1 r1 →
      L6_findOrder_117 X τ2 (x1 + 1) F))) : L6_findOrder_117 X σ x1 F := go_w 15 h
abbrev L6_rowsIn_9 (X : En) (σ : Wd) (x1 x2 x3 x4 x5 : Int) (F : Int → Wd → Prop) : Prop := Go X k6_rowsIn 9 [some (vr o_md), some (vi x1), some (vi x2), some (vi x3), some (vi x4), some (vi x5)] [] σ (QI F)
set_option maxRecDepth 10000 in
theorem e6_rowsIn {X : En} (hX : XV X) {σ : Wd} {x1 x2 x3 : Int} {F : Int → Wd → Prop} (h :
    L6_rowsIn_9 X σ x1 x2 x3 0 (20 * x1) F) : TI X k6_rowsIn [vr o_md, vi x1, vi x2, vi x3] σ F := tr_w hX 8 rfl rfl h
set_option maxRecDepth 10000 in
theorem c6_rowsIn_9 {X : En} {σ : Wd} {x1 x2 x3 x4 x5 : Int} {F : Int → Wd → Prop} (h :
    (0 ≤ x1 ∧ x1 < 3) ∧ iR x5 ∧ iR ((20 * x1) + (σ md_orderMany x1)) ∧
    (((20 * x1) + (σ md_orderMany x1)) ≤ x5 → F x4 σ) ∧
    (¬ (((20 * x1) + (σ md_orderMany x1)) ≤ x5) → (0 ≤ x5 ∧ x5 < 60) ∧ iR (σ md_orderLine x5) ∧ iR x2 ∧
      ((σ md_orderLine x5) < x2 → L6_rowsIn_9 X σ x1 x2 x3 (x4 + 0) (x5 + 1) F) ∧
      (¬ ((σ md_orderLine x5) < x2) → (0 ≤ x5 ∧ x5 < 60) ∧ iR (σ md_orderLine x5) ∧ iR x3 ∧
        (x3 ≤ (σ md_orderLine x5) → L6_rowsIn_9 X σ x1 x2 x3 (x4 + 0) (x5 + 1) F) ∧
        (¬ (x3 ≤ (σ md_orderLine x5)) → (0 ≤ x5 ∧ x5 < 60) ∧ TI X k6_rowsOf [vr o_md, vi (σ md_order x5)] σ (fun r1 τ1 =>
          L6_rowsIn_9 X τ1 x1 x2 x3 (x4 + r1) (x5 + 1) F))))) : L6_rowsIn_9 X σ x1 x2 x3 x4 x5 F := go_w 36 h
abbrev L6_lastIn_5 (X : En) (σ : Wd) (x1 x2 x3 x4 : Int) (F : Int → Wd → Prop) : Prop := Go X k6_lastIn 5 [some (vr o_md), some (vi x1), some (vi x2), some (vi x3), some (vi x4)] [] σ (QI F)
set_option maxRecDepth 10000 in
theorem e6_lastIn {X : En} (hX : XV X) {σ : Wd} {x1 x2 : Int} {F : Int → Wd → Prop} (h :
    L6_lastIn_5 X σ x1 x2 (-1) 0 F) : TI X k6_lastIn [vr o_md, vi x1, vi x2] σ F := tr_w hX 6 rfl rfl h
set_option maxRecDepth 10000 in
theorem c6_lastIn_5 {X : En} {σ : Wd} {x1 x2 x3 x4 : Int} {F : Int → Wd → Prop} (h :
    (0 ≤ (0 : Int) ∧ (0 : Int) < 3) ∧ iR x4 ∧ iR (σ md_orderMany 0) ∧
    ((σ md_orderMany 0) ≤ x4 → F x3 σ) ∧
    (¬ ((σ md_orderMany 0) ≤ x4) → (0 ≤ x4 ∧ x4 < 60) ∧ iR (σ md_orderLine x4) ∧ iR x1 ∧
      ((σ md_orderLine x4) < x1 → L6_lastIn_5 X σ x1 x2 x3 (x4 + 1) F) ∧
      (¬ ((σ md_orderLine x4) < x1) → (0 ≤ x4 ∧ x4 < 60) ∧ iR (σ md_orderLine x4) ∧ iR x2 ∧
        (x2 ≤ (σ md_orderLine x4) → L6_lastIn_5 X σ x1 x2 x3 (x4 + 1) F) ∧
        (¬ (x2 ≤ (σ md_orderLine x4)) → (0 ≤ x4 ∧ x4 < 60) ∧ L6_lastIn_5 X σ x1 x2 (σ md_order x4) (x4 + 1) F)))) : L6_lastIn_5 X σ x1 x2 x3 x4 F := go_w 28 h
abbrev L6_figuresAhead_4 (X : En) (σ : Wd) (x1 x2 x3 : Int) (F : Int → Wd → Prop) : Prop := Go X k6_figuresAhead 4 [some (vr o_md), some (vi x1), some (vi x2), some (vi x3)] [] σ (QI F)
set_option maxRecDepth 10000 in
theorem e6_figuresAhead {X : En} (hX : XV X) {σ : Wd} {x1 : Int} {F : Int → Wd → Prop} (h :
    L6_figuresAhead_4 X σ x1 0 0 F) : TI X k6_figuresAhead [vr o_md, vi x1] σ F := tr_w hX 6 rfl rfl h
set_option maxRecDepth 10000 in
theorem c6_figuresAhead_4 {X : En} {σ : Wd} {x1 x2 x3 : Int} {F : Int → Wd → Prop} (h :
    iR x3 ∧ iR (σ md_figures 0) ∧
    ((σ md_figures 0) ≤ x3 → F x2 σ) ∧
    (¬ ((σ md_figures 0) ≤ x3) → (0 ≤ x3 ∧ x3 < 4) ∧ iR (σ md_figureAt x3) ∧ iR x1 ∧
      (x1 ≤ (σ md_figureAt x3) → L6_figuresAhead_4 X σ x1 (x2 + 0) (x3 + 1) F) ∧
      (¬ (x1 ≤ (σ md_figureAt x3)) → L6_figuresAhead_4 X σ x1 (x2 + 1) (x3 + 1) F))) : L6_figuresAhead_4 X σ x1 x2 x3 F := go_w 19 h
abbrev L6_margin_10 (X : En) (σ : Wd) (x1 x2 x3 x4 x5 x6 : Int) (F : Int → Wd → Prop) : Prop := Go X k6_margin 10 [some (vr o_md), some (vi x1), some (vi x2), some (vi x3), some (vi x4), some (vi x5), some (vi x6), none, none] [] σ (QI F)
abbrev L6_margin_71 (X : En) (σ : Wd) (x1 x2 x3 x5 x6 x7 s0 : Int) (F : Int → Wd → Prop) : Prop := Go X k6_margin 71 [some (vr o_md), some (vi x1), some (vi x2), some (vi x3), none, some (vi x5), some (vi x6), some (vi x7), none] [vi s0] σ (QI F)
set_option maxRecDepth 10000 in
theorem e6_margin {X : En} (hX : XV X) {σ : Wd} {x1 x2 x3 : Int} {F : Int → Wd → Prop} (h :
    L6_margin_10 X σ x1 x2 x3 0 0 40 F) : TI X k6_margin [vr o_md, vi x1, vi x2, vi x3] σ F := tr_w hX 8 rfl rfl h
set_option maxRecDepth 10000 in
theorem c6_margin_10 {X : En} {σ : Wd} {x1 x2 x3 x4 x5 x6 : Int} {F : Int → Wd → Prop} (h :
    (0 ≤ (2 : Int) ∧ (2 : Int) < 3) ∧ iR x6 ∧ iR (40 + (σ md_orderMany 2)) ∧
    ((40 + (σ md_orderMany 2)) ≤ x6 → F x5 σ) ∧
    (¬ ((40 + (σ md_orderMany 2)) ≤ x6) → (0 ≤ x6 ∧ x6 < 60) ∧ iR (σ md_orderLine x6) ∧ iR x1 ∧
      ((σ md_orderLine x6) < x1 → L6_margin_10 X σ x1 x2 x3 x4 x5 (x6 + 1) F) ∧
      (¬ ((σ md_orderLine x6) < x1) → (0 ≤ x6 ∧ x6 < 60) ∧ iR (σ md_orderLine x6) ∧ iR x2 ∧
        (x2 ≤ (σ md_orderLine x6) → L6_margin_10 X σ x1 x2 x3 x4 x5 (x6 + 1) F) ∧
        (¬ (x2 ≤ (σ md_orderLine x6)) → (0 ≤ x6 ∧ x6 < 60) ∧ iR x4 ∧ iR ((σ md_orderLine x6) - x1) ∧
          (x4 ≤ ((σ md_orderLine x6) - x1) → L6_margin_71 X σ x1 x2 x3 x5 x6 ((σ md_orderLine x6) - x1) ((σ md_orderLine x6) - x1) F) ∧
          (¬ (x4 ≤ ((σ md_orderLine x6) - x1)) → L6_margin_71 X σ x1 x2 x3 x5 x6 ((σ md_orderLine x6) - x1) x4 F))))) : L6_margin_10 X σ x1 x2 x3 x4 x5 x6 F := go_w 34 h
set_option maxRecDepth 10000 in
theorem c6_margin_71 {X : En} {σ : Wd} {x1 x2 x3 x5 x6 x7 s0 : Int} {F : Int → Wd → Prop} (h :
    (0 ≤ x6 ∧ x6 < 60) ∧ TI X k6_rowsOf [vr o_md, vi (σ md_order x6)] σ (fun r1 τ1 =>
    iR (s0 + r1) ∧ iR x3 ∧
    ((s0 + r1) ≤ x3 → L6_margin_10 X τ1 x1 x2 x3 (s0 + r1) (x5 + (s0 - x7)) (x6 + 1) F) ∧
    (¬ ((s0 + r1) ≤ x3) → F (-1) τ1))) : L6_margin_71 X σ x1 x2 x3 x5 x6 x7 s0 F := go_w 23 h
set_option maxRecDepth 10000 in
theorem e6_isLast {X : En} (hX : XV X) {σ : Wd} {x1 : Int} {F : Int → Wd → Prop} (h :
    (0 ≤ x1 ∧ x1 < 50) ∧ (0 ≤ x1 ∧ x1 < 50) ∧ (0 ≤ (σ md_paragraphOf x1) ∧ (σ md_paragraphOf x1) < 16) ∧ iR (σ md_placeOf x1) ∧ iR ((σ md_sizes (σ md_paragraphOf x1)) - 1) ∧
    (¬ (σ md_placeOf x1) = ((σ md_sizes (σ md_paragraphOf x1)) - 1) → ((0 : Int) = 0 ∨ (0 : Int) = 1) ∧ F 0 σ) ∧
    (¬ (¬ (σ md_placeOf x1) = ((σ md_sizes (σ md_paragraphOf x1)) - 1)) → ((1 : Int) = 0 ∨ (1 : Int) = 1) ∧ F 1 σ)) : TI X k6_isLast [vr o_md, vi x1] σ F := tr_w hX 18 rfl rfl h
abbrev L6_costOf_37 (X : En) (σ : Wd) (x1 x2 x3 x4 x5 x6 : Int) (F : Int → Wd → Prop) : Prop := Go X k6_costOf 37 [some (vr o_md), some (vi x1), some (vi x2), some (vi x3), some (vi x4), some (vi x5), some (vi x6), none, none, none] [] σ (QI F)
abbrev L6_costOf_90 (X : En) (σ : Wd) (x1 x2 x3 x4 x6 s0 s1 : Int) (F : Int → Wd → Prop) : Prop := Go X k6_costOf 90 [some (vr o_md), some (vi x1), some (vi x2), some (vi x3), some (vi x4), none, some (vi x6), none, none, none] [vi s0, vi s1] σ (QI F)
abbrev L6_costOf_119 (X : En) (σ : Wd) (x1 x2 x3 x4 x6 x7 x8 : Int) (F : Int → Wd → Prop) : Prop := Go X k6_costOf 119 [some (vr o_md), some (vi x1), some (vi x2), some (vi x3), some (vi x4), none, some (vi x6), some (vi x7), some (vi x8), none] [] σ (QI F)
abbrev L6_costOf_214 (X : En) (σ : Wd) (x1 x2 x3 x6 s0 : Int) (F : Int → Wd → Prop) : Prop := Go X k6_costOf 214 [some (vr o_md), some (vi x1), some (vi x2), some (vi x3), none, none, some (vi x6), none, none, none] [vi s0] σ (QI F)
abbrev L6_costOf_251 (X : En) (σ : Wd) (x1 x2 x3 x6 s0 s1 : Int) (F : Int → Wd → Prop) : Prop := Go X k6_costOf 251 [some (vr o_md), some (vi x1), some (vi x2), some (vi x3), none, none, some (vi x6), none, none, none] [vi s0, vi s1] σ (QI F)
abbrev L6_costOf_315 (X : En) (σ : Wd) (x1 x3 s0 s1 : Int) (F : Int → Wd → Prop) : Prop := Go X k6_costOf 315 [some (vr o_md), some (vi x1), none, some (vi x3), none, none, none, none, none, none] [vi s0, vi s1] σ (QI F)
set_option maxRecDepth 10000 in
theorem e6_costOf {X : En} (hX : XV X) {σ : Wd} {x1 x2 x3 x4 x5 x6 : Int} {F : Int → Wd → Prop} (h :
    iR x2 ∧ iR (σ md_lines 0) ∧
    ((σ md_lines 0) ≤ x2 → L6_costOf_37 X σ x1 x2 x3 x4 x5 x6 F) ∧
    (¬ ((σ md_lines 0) ≤ x2) → (0 ≤ (x2 - 1) ∧ (x2 - 1) < 50) ∧ (0 ≤ (σ md_paragraphOf (x2 - 1)) ∧ (σ md_paragraphOf (x2 - 1)) < 16) ∧ iR (σ md_kinds (σ md_paragraphOf (x2 - 1))) ∧ iR 1 ∧
      (¬ (σ md_kinds (σ md_paragraphOf (x2 - 1))) = 1 → L6_costOf_37 X σ x1 x2 x3 x4 x5 x6 F) ∧
      (¬ (¬ (σ md_kinds (σ md_paragraphOf (x2 - 1))) = 1) → TI X k6_isLast [vr o_md, vi (x2 - 1)] σ (fun r1 τ1 =>
        iR r1 ∧
        (r1 = 0 → L6_costOf_37 X τ1 x1 x2 x3 x4 x5 x6 F) ∧
        (¬ (r1 = 0) → F (-1) τ1))))) : TI X k6_costOf [vr o_md, vi x1, vi x2, vi x3, vi x4, vi x5, vi x6] σ F := tr_w hX 24 rfl rfl h
set_option maxRecDepth 10000 in
theorem c6_costOf_37 {X : En} {σ : Wd} {x1 x2 x3 x4 x5 x6 : Int} {F : Int → Wd → Prop} (h :
    TI X k6_rowsIn [vr o_md, vi 0, vi x1, vi x2] σ (fun r1 τ1 =>
    ∀ τ2, τ2 = wu τ1 md_rows0 0 ((x5 + r1) - x6) →
    TI X k6_rowsIn [vr o_md, vi 1, vi x1, vi x2] τ2 (fun r3 τ3 =>
    ∀ τ4, τ4 = wu τ3 md_rows1 0 r3 →
    iR (τ4 md_rows0 0) ∧
    ((τ4 md_rows0 0) ≤ 0 → L6_costOf_90 X τ4 x1 x2 x3 x4 x6 0 (x2 - x1) F) ∧
    (¬ ((τ4 md_rows0 0) ≤ 0) → (0 ≤ (1 : Int) ∧ (1 : Int) < 9) ∧ L6_costOf_90 X τ4 x1 x2 x3 x4 x6 ((τ4 md_rows0 0) + (τ4 md_rules 1)) (x2 - x1) F)))) : L6_costOf_37 X σ x1 x2 x3 x4 x5 x6 F := go_w 34 h
set_option maxRecDepth 10000 in
theorem c6_costOf_90 {X : En} {σ : Wd} {x1 x2 x3 x4 x6 s0 s1 : Int} {F : Int → Wd → Prop} (h :
    iR (σ md_rows1 0) ∧
    ((σ md_rows1 0) ≤ 0 → L6_costOf_119 X σ x1 x2 x3 x4 x6 ((s1 + s0) + 0) x3 F) ∧
    (¬ ((σ md_rows1 0) ≤ 0) → (0 ≤ (1 : Int) ∧ (1 : Int) < 9) ∧ L6_costOf_119 X σ x1 x2 x3 x4 x6 ((s1 + s0) + ((σ md_rows1 0) + (σ md_rules 1))) x3 F)) : L6_costOf_90 X σ x1 x2 x3 x4 x6 s0 s1 F := go_w 18 h
set_option maxRecDepth 10000 in
theorem c6_costOf_119 {X : En} {σ : Wd} {x1 x2 x3 x4 x6 x7 x8 : Int} {F : Int → Wd → Prop} (h :
    iR x8 ∧ iR x4 ∧
    (x4 ≤ x8 → (0 ≤ (0 : Int) ∧ (0 : Int) < 9) ∧ ∀ τ1, τ1 = wu σ md_left 0 ((σ md_rules 0) - x7) →
      iR (τ1 md_left 0) ∧
      (0 ≤ (τ1 md_left 0) → TI X k6_margin [vr o_md, vi x1, vi x2, vi ((x2 - x1) + (τ1 md_left 0))] τ1 (fun r2 τ2 =>
        ∀ τ3, τ3 = wu τ2 md_moved 0 r2 →
        iR (τ3 md_moved 0) ∧
        (0 ≤ (τ3 md_moved 0) → iR x2 ∧ iR (τ3 md_lines 0) ∧
          (¬ x2 = (τ3 md_lines 0) → L6_costOf_214 X τ3 x1 x2 x3 x6 ((τ3 md_left 0) * (τ3 md_left 0)) F) ∧
          (¬ (¬ x2 = (τ3 md_lines 0)) → L6_costOf_214 X τ3 x1 x2 x3 x6 0 F)) ∧
        (¬ (0 ≤ (τ3 md_moved 0)) → F (-1) τ3))) ∧
      (¬ (0 ≤ (τ1 md_left 0)) → F (-1) τ1)) ∧
    (¬ (x4 ≤ x8) → (0 ≤ x8 ∧ x8 < 4) ∧ L6_costOf_119 X σ x1 x2 x3 x4 x6 (x7 + (σ md_figureRows x8)) (x8 + 1) F)) : L6_costOf_119 X σ x1 x2 x3 x4 x6 x7 x8 F := go_w 40 h
set_option maxRecDepth 10000 in
theorem c6_costOf_214 {X : En} {σ : Wd} {x1 x2 x3 x6 s0 : Int} {F : Int → Wd → Prop} (h :
    TI X k6_isLast [vr o_md, vi x1] σ (fun r1 τ1 =>
    iR r1 ∧
    (r1 = 0 → L6_costOf_251 X τ1 x1 x2 x3 x6 0 s0 F) ∧
    (¬ (r1 = 0) → (0 ≤ x1 ∧ x1 < 50) ∧ (0 ≤ (τ1 md_paragraphOf x1) ∧ (τ1 md_paragraphOf x1) < 16) ∧ iR (τ1 md_sizes (τ1 md_paragraphOf x1)) ∧ iR 1 ∧
      ((τ1 md_sizes (τ1 md_paragraphOf x1)) ≤ 1 → L6_costOf_251 X τ1 x1 x2 x3 x6 0 s0 F) ∧
      (¬ ((τ1 md_sizes (τ1 md_paragraphOf x1)) ≤ 1) → (0 ≤ (4 : Int) ∧ (4 : Int) < 9) ∧ L6_costOf_251 X τ1 x1 x2 x3 x6 (τ1 md_rules 4) s0 F)))) : L6_costOf_214 X σ x1 x2 x3 x6 s0 F := go_w 22 h
set_option maxRecDepth 10000 in
theorem c6_costOf_251 {X : En} {σ : Wd} {x1 x2 x3 x6 s0 s1 : Int} {F : Int → Wd → Prop} (h :
    (0 ≤ (x2 - 1) ∧ (x2 - 1) < 50) ∧ iR (σ md_placeOf (x2 - 1)) ∧
    (¬ (σ md_placeOf (x2 - 1)) = 0 → iR x6 ∧
      (x6 ≤ 0 → L6_costOf_315 X σ x1 x3 0 ((s1 + s0) + 0) F) ∧
      (¬ (x6 ≤ 0) → (0 ≤ (6 : Int) ∧ (6 : Int) < 9) ∧ L6_costOf_315 X σ x1 x3 (σ md_rules 6) ((s1 + s0) + 0) F)) ∧
    (¬ (¬ (σ md_placeOf (x2 - 1)) = 0) → (0 ≤ (x2 - 1) ∧ (x2 - 1) < 50) ∧ (0 ≤ (σ md_paragraphOf (x2 - 1)) ∧ (σ md_paragraphOf (x2 - 1)) < 16) ∧ iR (σ md_sizes (σ md_paragraphOf (x2 - 1))) ∧ iR 1 ∧
      ((σ md_sizes (σ md_paragraphOf (x2 - 1))) ≤ 1 → iR x6 ∧
        (x6 ≤ 0 → L6_costOf_315 X σ x1 x3 0 ((s1 + s0) + 0) F) ∧
        (¬ (x6 ≤ 0) → (0 ≤ (6 : Int) ∧ (6 : Int) < 9) ∧ L6_costOf_315 X σ x1 x3 (σ md_rules 6) ((s1 + s0) + 0) F)) ∧
      (¬ ((σ md_sizes (σ md_paragraphOf (x2 - 1))) ≤ 1) → (0 ≤ (5 : Int) ∧ (5 : Int) < 9) ∧ iR x6 ∧
        (x6 ≤ 0 → L6_costOf_315 X σ x1 x3 0 ((s1 + s0) + (σ md_rules 5)) F) ∧
        (¬ (x6 ≤ 0) → (0 ≤ (6 : Int) ∧ (6 : Int) < 9) ∧ L6_costOf_315 X σ x1 x3 (σ md_rules 6) ((s1 + s0) + (σ md_rules 5)) F)))) : L6_costOf_251 X σ x1 x2 x3 x6 s0 s1 F := go_w 38 h
set_option maxRecDepth 10000 in
theorem c6_costOf_315 {X : En} {σ : Wd} {x1 x3 s0 s1 : Int} {F : Int → Wd → Prop} (h :
    TI X k6_figuresAhead [vr o_md, vi x1] σ (fun r1 τ1 =>
    iR r1 ∧ iR x3 ∧
    (r1 ≤ x3 → (0 ≤ (8 : Int) ∧ (8 : Int) < 9) ∧ F (((s1 + s0) + 0) + ((τ1 md_rules 8) * (τ1 md_moved 0))) τ1) ∧
    (¬ (r1 ≤ x3) → (0 ≤ (7 : Int) ∧ (7 : Int) < 9) ∧ (0 ≤ (8 : Int) ∧ (8 : Int) < 9) ∧ F (((s1 + s0) + ((τ1 md_rules 7) * (r1 - x3))) + ((τ1 md_rules 8) * (τ1 md_moved 0))) τ1))) : L6_costOf_315 X σ x1 x3 s0 s1 F := go_w 32 h
set_option maxRecDepth 10000 in
theorem e6_state {X : En} (hX : XV X) {σ : Wd} {x0 x1 x2 : Int} {F : Int → Wd → Prop} (h :
    F (((55 * x0) + (11 * x1)) + x2) σ) : TI X k6_state [vi x0, vi x1, vi x2] σ F := tr_w hX 11 rfl rfl h
abbrev L6_look_36 (X : En) (σ : Wd) (x1 x2 x3 x4 s0 : Int) (F : Wd → Prop) : Prop := Go X k6_look 36 [some (vr o_md), some (vi x1), some (vi x2), some (vi x3), some (vi x4), none, none, none, none, none, none, none, none, none, none, none] [vi s0] σ (QV F)
abbrev L6_look_74 (X : En) (σ : Wd) (x1 x2 x3 x4 x6 x8 : Int) (F : Wd → Prop) : Prop := Go X k6_look 74 [some (vr o_md), some (vi x1), some (vi x2), some (vi x3), some (vi x4), none, some (vi x6), none, some (vi x8), none, none, none, none, none, none, none] [] σ (QV F)
abbrev L6_look_130 (X : En) (σ : Wd) (x1 x2 x3 x4 x6 x8 x10 x11 : Int) (F : Wd → Prop) : Prop := Go X k6_look 130 [some (vr o_md), some (vi x1), some (vi x2), some (vi x3), some (vi x4), none, some (vi x6), none, some (vi x8), none, some (vi x10), some (vi x11), none, none, none, none] [] σ (QV F)
abbrev L6_look_140 (X : En) (σ : Wd) (x1 x2 x3 x4 x6 x8 x10 x11 x12 : Int) (F : Wd → Prop) : Prop := Go X k6_look 140 [some (vr o_md), some (vi x1), some (vi x2), some (vi x3), some (vi x4), none, some (vi x6), none, some (vi x8), none, some (vi x10), some (vi x11), some (vi x12), none, none, none] [] σ (QV F)
abbrev L6_look_175 (X : En) (σ : Wd) (x1 x2 x3 x4 x6 x8 x10 x11 x12 : Int) (F : Wd → Prop) : Prop := Go X k6_look 175 [some (vr o_md), some (vi x1), some (vi x2), some (vi x3), some (vi x4), none, some (vi x6), none, some (vi x8), none, some (vi x10), some (vi x11), some (vi x12), none, none, none] [] σ (QV F)
abbrev L6_look_203 (X : En) (σ : Wd) (x1 x2 x3 x4 x6 x8 x10 x11 x12 s0 : Int) (F : Wd → Prop) : Prop := Go X k6_look 203 [some (vr o_md), some (vi x1), some (vi x2), some (vi x3), some (vi x4), none, some (vi x6), none, some (vi x8), none, some (vi x10), some (vi x11), some (vi x12), none, none, none] [vi s0] σ (QV F)
abbrev L6_look_245 (X : En) (σ : Wd) (x1 x2 x3 x4 x6 x8 x10 x11 x12 : Int) (F : Wd → Prop) : Prop := Go X k6_look 245 [some (vr o_md), some (vi x1), some (vi x2), some (vi x3), some (vi x4), none, some (vi x6), none, some (vi x8), none, some (vi x10), some (vi x11), some (vi x12), none, none, none] [] σ (QV F)
abbrev L6_look_275 (X : En) (σ : Wd) (x1 x2 x3 x4 x6 x8 x10 x11 x12 s0 : Int) (F : Wd → Prop) : Prop := Go X k6_look 275 [some (vr o_md), some (vi x1), some (vi x2), some (vi x3), some (vi x4), none, some (vi x6), none, some (vi x8), none, some (vi x10), some (vi x11), some (vi x12), none, none, none] [vi s0] σ (QV F)
set_option maxRecDepth 10000 in
theorem e6_look {X : En} (hX : XV X) {σ : Wd} {x1 x2 x3 : Int} {F : Wd → Prop} (h :
    TI X k6_state [vi x1, vi x2, vi x3] σ (fun r1 τ1 =>
    (0 ≤ r1 ∧ r1 < 2805) ∧ ∀ τ2, τ2 = wu τ1 md_leasts r1 1000000000 →
    TI X k6_figuresAhead [vr o_md, vi x1] τ2 (fun r3 τ3 =>
    iR r3 ∧ iR x2 ∧
    (r3 ≤ x2 → L6_look_36 X τ3 x1 x2 x3 r1 x2 F) ∧
    (¬ (r3 ≤ x2) → L6_look_36 X τ3 x1 x2 x3 r1 r3 F)))) : TV X k6_look [vr o_md, vi x1, vi x2, vi x3] σ F := tr_w hX 21 rfl rfl h
set_option maxRecDepth 10000 in
theorem c6_look_36 {X : En} {σ : Wd} {x1 x2 x3 x4 s0 : Int} {F : Wd → Prop} (h :
    (0 ≤ (0 : Int) ∧ (0 : Int) < 9) ∧ iR (x1 + (σ md_rules 0)) ∧ iR (σ md_lines 0) ∧
    ((σ md_lines 0) ≤ (x1 + (σ md_rules 0)) → L6_look_74 X σ x1 x2 x3 x4 s0 (σ md_lines 0) F) ∧
    (¬ ((σ md_lines 0) ≤ (x1 + (σ md_rules 0))) → (0 ≤ (0 : Int) ∧ (0 : Int) < 9) ∧ L6_look_74 X σ x1 x2 x3 x4 s0 (x1 + (σ md_rules 0)) F)) : L6_look_36 X σ x1 x2 x3 x4 s0 F := go_w 22 h
set_option maxRecDepth 10000 in
theorem c6_look_74 {X : En} {σ : Wd} {x1 x2 x3 x4 x6 x8 : Int} {F : Wd → Prop} (h :
    iR x8 ∧ iR x1 ∧
    (x8 ≤ x1 → F σ) ∧
    (¬ (x8 ≤ x1) → TI X k6_lastIn [vr o_md, vi x1, vi x8] σ (fun r1 τ1 =>
      iR r1 ∧
      (0 ≤ r1 → TI X k6_rowsOf [vr o_md, vi r1] τ1 (fun r2 τ2 =>
        TI X k6_figuresAhead [vr o_md, vi x8] τ2 (fun r3 τ3 =>
        iR r3 ∧ iR x6 ∧
        (r3 ≤ x6 → L6_look_130 X τ3 x1 x2 x3 x4 x6 x8 r2 x6 F) ∧
        (¬ (r3 ≤ x6) → TI X k6_figuresAhead [vr o_md, vi x8] τ3 (fun r4 τ4 =>
          L6_look_130 X τ4 x1 x2 x3 x4 x6 x8 r2 r4 F))))) ∧
      (¬ (0 ≤ r1) → TI X k6_figuresAhead [vr o_md, vi x8] τ1 (fun r5 τ5 =>
        iR r5 ∧ iR x6 ∧
        (r5 ≤ x6 → L6_look_130 X τ5 x1 x2 x3 x4 x6 x8 0 x6 F) ∧
        (¬ (r5 ≤ x6) → TI X k6_figuresAhead [vr o_md, vi x8] τ5 (fun r6 τ6 =>
          L6_look_130 X τ6 x1 x2 x3 x4 x6 x8 0 r6 F))))))) : L6_look_74 X σ x1 x2 x3 x4 x6 x8 F := go_w 26 h
set_option maxRecDepth 10000 in
theorem c6_look_130 {X : En} {σ : Wd} {x1 x2 x3 x4 x6 x8 x10 x11 : Int} {F : Wd → Prop} (h :
    iR x11 ∧ iR x6 ∧
    (x11 < x6 → L6_look_74 X σ x1 x2 x3 x4 x6 (x8 + (-1)) F) ∧
    (¬ (x11 < x6) → L6_look_140 X σ x1 x2 x3 x4 x6 x8 x10 x11 0 F)) : L6_look_130 X σ x1 x2 x3 x4 x6 x8 x10 x11 F := go_w 7 h
set_option maxRecDepth 10000 in
theorem c6_look_140 {X : En} {σ : Wd} {x1 x2 x3 x4 x6 x8 x10 x11 x12 : Int} {F : Wd → Prop} (h :
    (0 ≤ (2 : Int) ∧ (2 : Int) < 9) ∧ iR x12 ∧ iR (x10 - (σ md_rules 2)) ∧
    (x12 ≤ (x10 - (σ md_rules 2)) → iR x12 ∧
      (x12 = 0 → L6_look_175 X σ x1 x2 x3 x4 x6 x8 x10 x11 x12 F) ∧
      (¬ (x12 = 0) → (0 ≤ (3 : Int) ∧ (3 : Int) < 9) ∧ iR x12 ∧ iR (σ md_rules 3) ∧
        (x12 < (σ md_rules 3) → L6_look_203 X σ x1 x2 x3 x4 x6 x8 x10 x11 x12 0 F) ∧
        (¬ (x12 < (σ md_rules 3)) → L6_look_175 X σ x1 x2 x3 x4 x6 x8 x10 x11 x12 F))) ∧
    (¬ (x12 ≤ (x10 - (σ md_rules 2))) → iR x12 ∧
      (¬ x12 = 0 → L6_look_130 X σ x1 x2 x3 x4 x6 x8 x10 (x11 + (-1)) F) ∧
      (¬ (¬ x12 = 0) → iR x12 ∧
        (x12 = 0 → L6_look_175 X σ x1 x2 x3 x4 x6 x8 x10 x11 x12 F) ∧
        (¬ (x12 = 0) → (0 ≤ (3 : Int) ∧ (3 : Int) < 9) ∧ iR x12 ∧ iR (σ md_rules 3) ∧
          (x12 < (σ md_rules 3) → L6_look_203 X σ x1 x2 x3 x4 x6 x8 x10 x11 x12 0 F) ∧
          (¬ (x12 < (σ md_rules 3)) → L6_look_175 X σ x1 x2 x3 x4 x6 x8 x10 x11 x12 F))))) : L6_look_140 X σ x1 x2 x3 x4 x6 x8 x10 x11 x12 F := go_w 21 h
set_option maxRecDepth 10000 in
theorem c6_look_175 {X : En} {σ : Wd} {x1 x2 x3 x4 x6 x8 x10 x11 x12 : Int} {F : Wd → Prop} (h :
    iR x8 ∧ iR (σ md_lines 0) ∧
    (x8 < (σ md_lines 0) → L6_look_203 X σ x1 x2 x3 x4 x6 x8 x10 x11 x12 1 F) ∧
    (¬ (x8 < (σ md_lines 0)) → iR x12 ∧
      (¬ x12 = 0 → L6_look_203 X σ x1 x2 x3 x4 x6 x8 x10 x11 x12 0 F) ∧
      (¬ (¬ x12 = 0) → iR x11 ∧ iR (σ md_figures 0) ∧
        (¬ x11 = (σ md_figures 0) → L6_look_203 X σ x1 x2 x3 x4 x6 x8 x10 x11 x12 0 F) ∧
        (¬ (¬ x11 = (σ md_figures 0)) → L6_look_203 X σ x1 x2 x3 x4 x6 x8 x10 x11 x12 1 F)))) : L6_look_175 X σ x1 x2 x3 x4 x6 x8 x10 x11 x12 F := go_w 14 h
set_option maxRecDepth 10000 in
theorem c6_look_203 {X : En} {σ : Wd} {x1 x2 x3 x4 x6 x8 x10 x11 x12 s0 : Int} {F : Wd → Prop} (h :
    iR s0 ∧
    (s0 = 0 → L6_look_245 X σ x1 x2 x3 x4 x6 x8 x10 x11 x12 F) ∧
    (¬ (s0 = 0) → TI X k6_state [vi x8, vi x11, vi x12] σ (fun r1 τ1 =>
      (0 ≤ r1 ∧ r1 < 2805) ∧ iR (τ1 md_leasts r1) ∧ iR 1000000000 ∧
      (1000000000 ≤ (τ1 md_leasts r1) → L6_look_245 X τ1 x1 x2 x3 x4 x6 x8 x10 x11 x12 F) ∧
      (¬ (1000000000 ≤ (τ1 md_leasts r1)) → TI X k6_costOf [vr o_md, vi x1, vi x8, vi x2, vi x11, vi x3, vi x12] τ1 (fun r2 τ2 =>
        iR r2 ∧
        (0 ≤ r2 → TI X k6_state [vi x8, vi x11, vi x12] τ2 (fun r3 τ3 =>
          (0 ≤ r3 ∧ r3 < 2805) ∧ L6_look_275 X τ3 x1 x2 x3 x4 x6 x8 x10 x11 x12 (r2 + (τ3 md_leasts r3)) F)) ∧
        (¬ (0 ≤ r2) → L6_look_275 X τ2 x1 x2 x3 x4 x6 x8 x10 x11 x12 1000000000 F)))))) : L6_look_203 X σ x1 x2 x3 x4 x6 x8 x10 x11 x12 s0 F := go_w 35 h
set_option maxRecDepth 10000 in
theorem c6_look_245 {X : En} {σ : Wd} {x1 x2 x3 x4 x6 x8 x10 x11 x12 : Int} {F : Wd → Prop} (h :
    iR (-1) ∧
    (0 ≤ (-1 : Int) → TI X k6_state [vi x8, vi x11, vi x12] σ (fun r1 τ1 =>
      (0 ≤ r1 ∧ r1 < 2805) ∧ L6_look_275 X τ1 x1 x2 x3 x4 x6 x8 x10 x11 x12 ((-1) + (τ1 md_leasts r1)) F)) ∧
    (¬ (0 ≤ (-1 : Int)) → L6_look_275 X σ x1 x2 x3 x4 x6 x8 x10 x11 x12 1000000000 F)) : L6_look_245 X σ x1 x2 x3 x4 x6 x8 x10 x11 x12 F := go_w 15 h
set_option maxRecDepth 10000 in
theorem c6_look_275 {X : En} {σ : Wd} {x1 x2 x3 x4 x6 x8 x10 x11 x12 s0 : Int} {F : Wd → Prop} (h :
    (0 ≤ x4 ∧ x4 < 2805) ∧ iR s0 ∧ iR (σ md_leasts x4) ∧
    ((σ md_leasts x4) ≤ s0 → L6_look_140 X σ x1 x2 x3 x4 x6 x8 x10 x11 (x12 + 1) F) ∧
    (¬ ((σ md_leasts x4) ≤ s0) → (0 ≤ x4 ∧ x4 < 2805) ∧ ∀ τ1, τ1 = wu σ md_leasts x4 s0 →
      (0 ≤ x4 ∧ x4 < 2805) ∧ ∀ τ2, τ2 = wu τ1 md_nextLine x4 x8 →
      (0 ≤ x4 ∧ x4 < 2805) ∧ ∀ τ3, τ3 = wu τ2 md_nextFigure x4 x11 →
      (0 ≤ x4 ∧ x4 < 2805) ∧ ∀ τ4, τ4 = wu τ3 md_nextCarried x4 x12 →
      L6_look_140 X τ4 x1 x2 x3 x4 x6 x8 x10 x11 (x12 + 1) F)) : L6_look_275 X σ x1 x2 x3 x4 x6 x8 x10 x11 x12 s0 F := go_w 31 h
abbrev L6_find_13 (X : En) (σ : Wd) (x1 : Int) (F : Int → Wd → Prop) : Prop := Go X k6_find 13 [some (vr o_md), some (vi x1), none, none] [] σ (QI F)
abbrev L6_find_23 (X : En) (σ : Wd) (x1 x2 : Int) (F : Int → Wd → Prop) : Prop := Go X k6_find 23 [some (vr o_md), some (vi x1), some (vi x2), none] [] σ (QI F)
abbrev L6_find_80 (X : En) (σ : Wd) (x1 : Int) (F : Int → Wd → Prop) : Prop := Go X k6_find 80 [some (vr o_md), some (vi x1), none, none] [] σ (QI F)
abbrev L6_find_86 (X : En) (σ : Wd) (x1 x2 : Int) (F : Int → Wd → Prop) : Prop := Go X k6_find 86 [some (vr o_md), some (vi x1), some (vi x2), none] [] σ (QI F)
abbrev L6_find_97 (X : En) (σ : Wd) (x1 x2 x3 : Int) (F : Int → Wd → Prop) : Prop := Go X k6_find 97 [some (vr o_md), some (vi x1), some (vi x2), some (vi x3)] [] σ (QI F)
abbrev L6_find_140 (X : En) (σ : Wd) (x1 : Int) (F : Int → Wd → Prop) : Prop := Go X k6_find 140 [some (vr o_md), some (vi x1), none, none] [] σ (QI F)
abbrev L6_find_212 (X : En) (σ : Wd) (F : Int → Wd → Prop) : Prop := Go X k6_find 212 [some (vr o_md), none, none, none] [] σ (QI F)
set_option maxRecDepth 10000 in
theorem e6_find {X : En} (hX : XV X) {σ : Wd} {F : Int → Wd → Prop} (h :
    iR (σ md_isFound 0) ∧
    (¬ (σ md_isFound 0) = 0 → TI X k6_state [vi 0, vi 0, vi 0] σ (fun r1 τ1 =>
      (0 ≤ r1 ∧ r1 < 2805) ∧ iR (τ1 md_leasts r1) ∧ iR 1000000000 ∧
      (1000000000 ≤ (τ1 md_leasts r1) → ((0 : Int) = 0 ∨ (0 : Int) = 1) ∧ F 0 τ1) ∧
      (¬ (1000000000 ≤ (τ1 md_leasts r1)) → ((1 : Int) = 0 ∨ (1 : Int) = 1) ∧ F 1 τ1))) ∧
    (¬ (¬ (σ md_isFound 0) = 0) → TV X k6_findOrder [vr o_md] σ (fun τ2 =>
      L6_find_13 X τ2 0 F))) : TI X k6_find [vr o_md] σ F := tr_w hX 16 rfl rfl h
set_option maxRecDepth 10000 in
theorem c6_find_13 {X : En} {σ : Wd} {x1 : Int} {F : Int → Wd → Prop} (h :
    iR x1 ∧ iR (σ md_figures 0) ∧
    ((σ md_figures 0) < x1 → L6_find_80 X σ ((σ md_lines 0) - 1) F) ∧
    (¬ ((σ md_figures 0) < x1) → L6_find_23 X σ x1 0 F)) : L6_find_13 X σ x1 F := go_w 11 h
set_option maxRecDepth 10000 in
theorem c6_find_23 {X : En} {σ : Wd} {x1 x2 : Int} {F : Int → Wd → Prop} (h :
    iR x2 ∧ iR 11 ∧
    (11 ≤ x2 → L6_find_13 X σ (x1 + 1) F) ∧
    (¬ (11 ≤ x2) → TI X k6_state [vi (σ md_lines 0), vi x1, vi x2] σ (fun r1 τ1 =>
      iR x1 ∧ iR (τ1 md_figures 0) ∧
      (¬ x1 = (τ1 md_figures 0) → (0 ≤ r1 ∧ r1 < 2805) ∧ ∀ τ2, τ2 = wu τ1 md_leasts r1 1000000000 →
        L6_find_23 X τ2 x1 (x2 + 1) F) ∧
      (¬ (¬ x1 = (τ1 md_figures 0)) → iR x2 ∧
        (¬ x2 = 0 → (0 ≤ r1 ∧ r1 < 2805) ∧ ∀ τ3, τ3 = wu τ1 md_leasts r1 1000000000 →
          L6_find_23 X τ3 x1 (x2 + 1) F) ∧
        (¬ (¬ x2 = 0) → (0 ≤ r1 ∧ r1 < 2805) ∧ ∀ τ4, τ4 = wu τ1 md_leasts r1 0 →
          L6_find_23 X τ4 x1 (x2 + 1) F))))) : L6_find_23 X σ x1 x2 F := go_w 23 h
set_option maxRecDepth 10000 in
theorem c6_find_80 {X : En} {σ : Wd} {x1 : Int} {F : Int → Wd → Prop} (h :
    iR x1 ∧
    (x1 < 0 → ∀ τ1, τ1 = wu σ md_pages 0 0 →
      TI X k6_state [vi 0, vi 0, vi 0] τ1 (fun r2 τ2 =>
      L6_find_140 X τ2 r2 F)) ∧
    (¬ (x1 < 0) → L6_find_86 X σ x1 0 F)) : L6_find_80 X σ x1 F := go_w 12 h
set_option maxRecDepth 10000 in
theorem c6_find_86 {X : En} {σ : Wd} {x1 x2 : Int} {F : Int → Wd → Prop} (h :
    TI X k6_figuresAhead [vr o_md, vi x1] σ (fun r1 τ1 =>
    iR x2 ∧ iR r1 ∧
    (r1 < x2 → L6_find_80 X τ1 (x1 + (-1)) F) ∧
    (¬ (r1 < x2) → L6_find_97 X τ1 x1 x2 0 F))) : L6_find_86 X σ x1 x2 F := go_w 9 h
set_option maxRecDepth 10000 in
theorem c6_find_97 {X : En} {σ : Wd} {x1 x2 x3 : Int} {F : Int → Wd → Prop} (h :
    iR x3 ∧ iR 11 ∧
    (11 ≤ x3 → L6_find_86 X σ x1 (x2 + 1) F) ∧
    (¬ (11 ≤ x3) → TV X k6_look [vr o_md, vi x1, vi x2, vi x3] σ (fun τ1 =>
      L6_find_97 X τ1 x1 x2 (x3 + 1) F))) : L6_find_97 X σ x1 x2 x3 F := go_w 12 h
set_option maxRecDepth 10000 in
theorem c6_find_140 {X : En} {σ : Wd} {x1 : Int} {F : Int → Wd → Prop} (h :
    TI X k6_state [vi 0, vi 0, vi 0] σ (fun r1 τ1 =>
    (0 ≤ r1 ∧ r1 < 2805) ∧ iR (τ1 md_leasts r1) ∧ iR 1000000000 ∧
    (1000000000 ≤ (τ1 md_leasts r1) → L6_find_212 X τ1 F) ∧
    (¬ (1000000000 ≤ (τ1 md_leasts r1)) → (0 ≤ x1 ∧ iR x1 ∧ 0 < (55 : Int) ∧ iR 55) ∧ iR (x1 / 55) ∧ iR (τ1 md_lines 0) ∧
      ((τ1 md_lines 0) ≤ (x1 / 55) → L6_find_212 X τ1 F) ∧
      (¬ ((τ1 md_lines 0) ≤ (x1 / 55)) → (0 ≤ (τ1 md_pages 0) ∧ (τ1 md_pages 0) < 51) ∧ ∀ τ2, τ2 = wu τ1 md_states (τ1 md_pages 0) x1 →
        ∀ τ3, τ3 = wu τ2 md_pages 0 ((τ2 md_pages 0) + 1) →
        (0 ≤ x1 ∧ x1 < 2805) ∧ (0 ≤ x1 ∧ x1 < 2805) ∧ (0 ≤ x1 ∧ x1 < 2805) ∧ TI X k6_state [vi (τ3 md_nextLine x1), vi (τ3 md_nextFigure x1), vi (τ3 md_nextCarried x1)] τ3 (fun r4 τ4 =>
        L6_find_140 X τ4 r4 F))))) : L6_find_140 X σ x1 F := go_w 44 h
set_option maxRecDepth 10000 in
theorem c6_find_212 {X : En} {σ : Wd} {F : Int → Wd → Prop} (h :
    ((1 : Int) = 0 ∨ (1 : Int) = 1) ∧ ∀ τ1, τ1 = wu σ md_isFound 0 1 →
    TI X k6_state [vi 0, vi 0, vi 0] τ1 (fun r2 τ2 =>
    (0 ≤ r2 ∧ r2 < 2805) ∧ iR (τ2 md_leasts r2) ∧ iR 1000000000 ∧
    (1000000000 ≤ (τ2 md_leasts r2) → ((0 : Int) = 0 ∨ (0 : Int) = 1) ∧ F 0 τ2) ∧
    (¬ (1000000000 ≤ (τ2 md_leasts r2)) → ((1 : Int) = 0 ∨ (1 : Int) = 1) ∧ F 1 τ2))) : L6_find_212 X σ F := go_w 16 h
set_option maxRecDepth 10000 in
theorem e6_pages {X : En} (hX : XV X) {σ : Wd} {F : Int → Wd → Prop} (h :
    TI X k6_find [vr o_md] σ (fun r1 τ1 =>
    iR r1 ∧
    (r1 = 0 → F (-1) τ1) ∧
    (¬ (r1 = 0) → F (τ1 md_pages 0) τ1))) : TI X k6_pages [vr o_md] σ F := tr_w hX 8 rfl rfl h
set_option maxRecDepth 10000 in
theorem e6_cost {X : En} (hX : XV X) {σ : Wd} {F : Int → Wd → Prop} (h :
    TI X k6_find [vr o_md] σ (fun r1 τ1 =>
    iR r1 ∧
    (r1 = 0 → F (-1) τ1) ∧
    (¬ (r1 = 0) → TI X k6_state [vi 0, vi 0, vi 0] τ1 (fun r2 τ2 =>
      (0 ≤ r2 ∧ r2 < 2805) ∧ F (τ2 md_leasts r2) τ2)))) : TI X k6_cost [vr o_md] σ F := tr_w hX 13 rfl rfl h
set_option maxRecDepth 10000 in
theorem e6_page {X : En} (hX : XV X) {σ : Wd} {x1 x2 : Int} {F : Int → Wd → Prop} (h :
    TI X k6_find [vr o_md] σ (fun r1 τ1 =>
    iR r1 ∧
    (r1 = 0 → F (-1001) τ1) ∧
    (¬ (r1 = 0) → iR x1 ∧ iR ((τ1 md_pages 0) - 1) ∧ TI X k6_in [vl x1, vl 0, vl ((τ1 md_pages 0) - 1)] τ1 (fun r2 τ2 =>
      iR r2 ∧
      (¬ r2 = 0 → iR x2 ∧ TI X k6_in [vl x2, vl 0, vl 9] τ2 (fun r3 τ3 =>
        iR r3 ∧
        (¬ r3 = 0 → (0 ≤ x1 ∧ x1 < 51) ∧ (0 ≤ (τ3 md_states x1) ∧ iR (τ3 md_states x1) ∧ 0 < (55 : Int) ∧ iR 55) ∧ (0 ≤ (τ3 md_states x1) ∧ iR (τ3 md_states x1) ∧ 0 < (11 : Int) ∧ iR 11) ∧ (0 ≤ ((τ3 md_states x1) / 11) ∧ iR ((τ3 md_states x1) / 11) ∧ 0 < (5 : Int) ∧ iR 5) ∧ (0 ≤ (τ3 md_states x1) ∧ (τ3 md_states x1) < 2805) ∧ (0 ≤ (τ3 md_states x1) ∧ (τ3 md_states x1) < 2805) ∧ (0 ≤ (τ3 md_states x1) ∧ iR (τ3 md_states x1) ∧ 0 < (11 : Int) ∧ iR 11) ∧ (0 ≤ (τ3 md_states x1) ∧ (τ3 md_states x1) < 2805) ∧ TI X k6_costOf [vr o_md, vi ((τ3 md_states x1) / 55), vi (τ3 md_nextLine (τ3 md_states x1)), vi (((τ3 md_states x1) / 11) % 5), vi (τ3 md_nextFigure (τ3 md_states x1)), vi ((τ3 md_states x1) % 11), vi (τ3 md_nextCarried (τ3 md_states x1))] τ3 (fun r4 τ4 =>
          iR x2 ∧
          ((x2 = 0 → F ((τ3 md_states x1) / 55) τ4) ∧
          (x2 = 1 → (0 ≤ (τ3 md_states x1) ∧ (τ3 md_states x1) < 2805) ∧ F ((τ4 md_nextLine (τ3 md_states x1)) - ((τ3 md_states x1) / 55)) τ4) ∧
          (x2 = 2 → (0 ≤ (τ3 md_states x1) ∧ (τ3 md_states x1) < 2805) ∧ F ((τ4 md_nextFigure (τ3 md_states x1)) - (((τ3 md_states x1) / 11) % 5)) τ4) ∧
          (x2 = 3 → F (τ4 md_rows0 0) τ4) ∧
          (x2 = 4 → F (τ4 md_rows1 0) τ4) ∧
          (x2 = 5 → F (τ4 md_left 0) τ4) ∧
          (x2 = 6 → F r4 τ4) ∧
          (x2 = 7 → (0 ≤ (τ3 md_states x1) ∧ iR (τ3 md_states x1) ∧ 0 < (11 : Int) ∧ iR 11) ∧ F ((τ3 md_states x1) % 11) τ4) ∧
          (x2 = 8 → (0 ≤ (τ3 md_states x1) ∧ (τ3 md_states x1) < 2805) ∧ F (τ4 md_nextCarried (τ3 md_states x1)) τ4) ∧
          True) ∧
          (x2 < 0 ∨ 9 ≤ x2 → F (τ4 md_moved 0) τ4))) ∧
        (¬ (¬ r3 = 0) → F (-1002) τ3))) ∧
      (¬ (¬ r2 = 0) → F (-1001) τ2))))) : TI X k6_page [vr o_md, vi x1, vi x2] σ F := tr_w hX 64 rfl rfl h
abbrev L6_pageOfLine_2 (X : En) (σ : Wd) (x1 x2 : Int) (F : Int → Wd → Prop) : Prop := Go X k6_pageOfLine 2 [some (vr o_md), some (vi x1), some (vi x2)] [] σ (QI F)
set_option maxRecDepth 10000 in
theorem e6_pageOfLine {X : En} (hX : XV X) {σ : Wd} {x1 : Int} {F : Int → Wd → Prop} (h :
    L6_pageOfLine_2 X σ x1 0 F) : TI X k6_pageOfLine [vr o_md, vi x1] σ F := tr_w hX 4 rfl rfl h
set_option maxRecDepth 10000 in
theorem c6_pageOfLine_2 {X : En} {σ : Wd} {x1 x2 : Int} {F : Int → Wd → Prop} (h :
    (0 ≤ x2 ∧ x2 < 51) ∧ (0 ≤ (σ md_states x2) ∧ (σ md_states x2) < 2805) ∧ iR (σ md_nextLine (σ md_states x2)) ∧ iR x1 ∧
    (x1 < (σ md_nextLine (σ md_states x2)) → F x2 σ) ∧
    (¬ (x1 < (σ md_nextLine (σ md_states x2))) → L6_pageOfLine_2 X σ x1 (x2 + 1) F)) : L6_pageOfLine_2 X σ x1 x2 F := go_w 13 h
abbrev L6_pageOfFigure_2 (X : En) (σ : Wd) (x1 x2 : Int) (F : Int → Wd → Prop) : Prop := Go X k6_pageOfFigure 2 [some (vr o_md), some (vi x1), some (vi x2)] [] σ (QI F)
set_option maxRecDepth 10000 in
theorem e6_pageOfFigure {X : En} (hX : XV X) {σ : Wd} {x1 : Int} {F : Int → Wd → Prop} (h :
    L6_pageOfFigure_2 X σ x1 0 F) : TI X k6_pageOfFigure [vr o_md, vi x1] σ F := tr_w hX 4 rfl rfl h
set_option maxRecDepth 10000 in
theorem c6_pageOfFigure_2 {X : En} {σ : Wd} {x1 x2 : Int} {F : Int → Wd → Prop} (h :
    (0 ≤ x2 ∧ x2 < 51) ∧ (0 ≤ (σ md_states x2) ∧ (σ md_states x2) < 2805) ∧ iR (σ md_nextFigure (σ md_states x2)) ∧ iR x1 ∧
    (x1 < (σ md_nextFigure (σ md_states x2)) → F x2 σ) ∧
    (¬ (x1 < (σ md_nextFigure (σ md_states x2))) → L6_pageOfFigure_2 X σ x1 (x2 + 1) F)) : L6_pageOfFigure_2 X σ x1 x2 F := go_w 13 h
set_option maxRecDepth 10000 in
theorem e6_isSplit {X : En} (hX : XV X) {σ : Wd} {x1 : Int} {F : Int → Wd → Prop} (h :
    TI X k6_noteLine [vr o_md, vi x1] σ (fun r1 τ1 =>
    TI X k6_pageOfLine [vr o_md, vi r1] τ1 (fun r2 τ2 =>
    (0 ≤ r2 ∧ r2 < 51) ∧ (0 ≤ (τ2 md_states r2) ∧ (τ2 md_states r2) < 2805) ∧ iR (τ2 md_nextCarried (τ2 md_states r2)) ∧
    ((τ2 md_nextCarried (τ2 md_states r2)) ≤ 0 → ((0 : Int) = 0 ∨ (0 : Int) = 1) ∧ F 0 τ2) ∧
    (¬ ((τ2 md_nextCarried (τ2 md_states r2)) ≤ 0) → (0 ≤ x1 ∧ x1 < 20) ∧ iR (τ2 md_bands x1) ∧
      (¬ (τ2 md_bands x1) = 0 → ((0 : Int) = 0 ∨ (0 : Int) = 1) ∧ F 0 τ2) ∧
      (¬ (¬ (τ2 md_bands x1) = 0) → (0 ≤ (τ2 md_states r2) ∧ iR (τ2 md_states r2) ∧ 0 < (55 : Int) ∧ iR 55) ∧ (0 ≤ (τ2 md_states r2) ∧ (τ2 md_states r2) < 2805) ∧ TI X k6_lastIn [vr o_md, vi ((τ2 md_states r2) / 55), vi (τ2 md_nextLine (τ2 md_states r2))] τ2 (fun r3 τ3 =>
        iR r3 ∧ iR x1 ∧
        (¬ r3 = x1 → ((0 : Int) = 0 ∨ (0 : Int) = 1) ∧ F 0 τ3) ∧
        (¬ (¬ r3 = x1) → ((1 : Int) = 0 ∨ (1 : Int) = 1) ∧ F 1 τ3))))))) : TI X k6_isSplit [vr o_md, vi x1] σ F := tr_w hX 34 rfl rfl h
abbrev L6_marginRow_39 (X : En) (σ : Wd) (x1 x2 x3 x4 x5 : Int) (F : Int → Wd → Prop) : Prop := Go X k6_marginRow 39 [some (vr o_md), some (vi x1), some (vi x2), some (vi x3), some (vi x4), some (vi x5), none] [] σ (QI F)
abbrev L6_marginRow_95 (X : En) (σ : Wd) (x1 x2 x3 x4 s0 : Int) (F : Int → Wd → Prop) : Prop := Go X k6_marginRow 95 [some (vr o_md), some (vi x1), some (vi x2), some (vi x3), some (vi x4), none, none] [vi s0] σ (QI F)
set_option maxRecDepth 10000 in
theorem e6_marginRow {X : En} (hX : XV X) {σ : Wd} {x1 : Int} {F : Int → Wd → Prop} (h :
    (0 ≤ x1 ∧ x1 < 20) ∧ iR (σ md_bands x1) ∧ iR 2 ∧
    ((σ md_bands x1) = 2 → TI X k6_noteLine [vr o_md, vi x1] σ (fun r1 τ1 =>
      TI X k6_pageOfLine [vr o_md, vi r1] τ1 (fun r2 τ2 =>
      (0 ≤ r2 ∧ r2 < 51) ∧ (0 ≤ (τ2 md_states r2) ∧ iR (τ2 md_states r2) ∧ 0 < (55 : Int) ∧ iR 55) ∧ L6_marginRow_39 X τ2 x1 ((τ2 md_states r2) / 55) 0 40 0 F))) ∧
    (¬ ((σ md_bands x1) = 2) → F (-1) σ)) : TI X k6_marginRow [vr o_md, vi x1] σ F := tr_w hX 25 rfl rfl h
set_option maxRecDepth 10000 in
theorem c6_marginRow_39 {X : En} {σ : Wd} {x1 x2 x3 x4 x5 : Int} {F : Int → Wd → Prop} (h :
    iR x5 ∧
    (¬ x5 = 0 → F x3 σ) ∧
    (¬ (¬ x5 = 0) → (0 ≤ x4 ∧ x4 < 60) ∧ iR (σ md_orderLine x4) ∧ iR x2 ∧
      ((σ md_orderLine x4) < x2 → L6_marginRow_39 X σ x1 x2 x3 (x4 + 1) x5 F) ∧
      (¬ ((σ md_orderLine x4) < x2) → (0 ≤ x4 ∧ x4 < 60) ∧ iR x3 ∧ iR ((σ md_orderLine x4) - x2) ∧
        (x3 ≤ ((σ md_orderLine x4) - x2) → (0 ≤ x4 ∧ x4 < 60) ∧ iR (σ md_order x4) ∧ iR x1 ∧
          (¬ (σ md_order x4) = x1 → L6_marginRow_95 X σ x1 x2 ((σ md_orderLine x4) - x2) x4 0 F) ∧
          (¬ (¬ (σ md_order x4) = x1) → L6_marginRow_95 X σ x1 x2 ((σ md_orderLine x4) - x2) x4 1 F)) ∧
        (¬ (x3 ≤ ((σ md_orderLine x4) - x2)) → (0 ≤ x4 ∧ x4 < 60) ∧ iR (σ md_order x4) ∧ iR x1 ∧
          (¬ (σ md_order x4) = x1 → L6_marginRow_95 X σ x1 x2 x3 x4 0 F) ∧
          (¬ (¬ (σ md_order x4) = x1) → L6_marginRow_95 X σ x1 x2 x3 x4 1 F))))) : L6_marginRow_39 X σ x1 x2 x3 x4 x5 F := go_w 31 h
set_option maxRecDepth 10000 in
theorem c6_marginRow_95 {X : En} {σ : Wd} {x1 x2 x3 x4 s0 : Int} {F : Int → Wd → Prop} (h :
    iR s0 ∧
    (s0 = 0 → (0 ≤ x4 ∧ x4 < 60) ∧ TI X k6_rowsOf [vr o_md, vi (σ md_order x4)] σ (fun r1 τ1 =>
      L6_marginRow_39 X τ1 x1 x2 (x3 + r1) (x4 + 1) s0 F)) ∧
    (¬ (s0 = 0) → L6_marginRow_39 X σ x1 x2 (x3 + 0) (x4 + 1) s0 F)) : L6_marginRow_95 X σ x1 x2 x3 x4 s0 F := go_w 16 h
abbrev L6_where_54 (X : En) (σ : Wd) (x1 x2 s0 : Int) (F : Int → Wd → Prop) : Prop := Go X k6_where 54 [some (vr o_md), some (vi x1), some (vi x2), none] [vi s0] σ (QI F)
set_option maxRecDepth 10000 in
theorem e6_where {X : En} (hX : XV X) {σ : Wd} {x1 x2 : Int} {F : Int → Wd → Prop} (h :
    iR x2 ∧ TI X k6_in [vl x2, vl 0, vl 4] σ (fun r1 τ1 =>
    iR r1 ∧
    (¬ r1 = 0 → iR x2 ∧
      (¬ x2 = 0 → iR x2 ∧ iR 3 ∧
        (¬ x2 = 3 → TI X k6_isNote [vr o_md, vi x1] τ1 (fun r2 τ2 =>
          L6_where_54 X τ2 x1 x2 r2 F)) ∧
        (¬ (¬ x2 = 3) → iR x1 ∧ iR ((τ1 md_figures 0) - 1) ∧ TI X k6_in [vl x1, vl 0, vl ((τ1 md_figures 0) - 1)] τ1 (fun r3 τ3 =>
          L6_where_54 X τ3 x1 x2 r3 F))) ∧
      (¬ (¬ x2 = 0) → TI X k6_isLine [vr o_md, vi x1] τ1 (fun r4 τ4 =>
        L6_where_54 X τ4 x1 x2 r4 F))) ∧
    (¬ (¬ r1 = 0) → F (-1002) τ1))) : TI X k6_where [vr o_md, vi x1, vi x2] σ F := tr_w hX 23 rfl rfl h
set_option maxRecDepth 10000 in
theorem c6_where_54 {X : En} {σ : Wd} {x1 x2 s0 : Int} {F : Int → Wd → Prop} (h :
    iR s0 ∧
    (¬ s0 = 0 → TI X k6_find [vr o_md] σ (fun r1 τ1 =>
      iR r1 ∧
      (¬ r1 = 0 → iR x2 ∧
        ((x2 = 0 → TI X k6_pageOfLine [vr o_md, vi x1] τ1 (fun r2 τ2 =>
          F r2 τ2)) ∧
        (x2 = 1 → TI X k6_noteLine [vr o_md, vi x1] τ1 (fun r3 τ3 =>
          TI X k6_pageOfLine [vr o_md, vi r3] τ3 (fun r4 τ4 =>
          F r4 τ4))) ∧
        (x2 = 2 → TI X k6_noteLine [vr o_md, vi x1] τ1 (fun r5 τ5 =>
          TI X k6_pageOfLine [vr o_md, vi r5] τ5 (fun r6 τ6 =>
          TI X k6_isSplit [vr o_md, vi x1] τ6 (fun r7 τ7 =>
          iR r7 ∧
          (r7 = 0 → F (r6 + 0) τ7) ∧
          (¬ (r7 = 0) → F (r6 + 1) τ7))))) ∧
        (x2 = 3 → TI X k6_pageOfFigure [vr o_md, vi x1] τ1 (fun r8 τ8 =>
          F r8 τ8)) ∧
        True) ∧
        (x2 < 0 ∨ 4 ≤ x2 → TI X k6_marginRow [vr o_md, vi x1] τ1 (fun r9 τ9 =>
          F r9 τ9))) ∧
      (¬ (¬ r1 = 0) → F (-1003) τ1))) ∧
    (¬ (¬ s0 = 0) → F (-1001) σ)) : L6_where_54 X σ x1 x2 s0 F := go_w 22 h
abbrev L6_mark_27 (X : En) (σ : Wd) (x1 x2 : Int) (F : Int → Wd → Prop) : Prop := Go X k6_mark 27 [some (vr o_md), some (vi x1), some (vi x2), none, none, none, none] [] σ (QI F)
abbrev L6_mark_66 (X : En) (σ : Wd) (x1 x2 x3 x4 x5 x6 : Int) (F : Int → Wd → Prop) : Prop := Go X k6_mark 66 [some (vr o_md), some (vi x1), some (vi x2), some (vi x3), some (vi x4), some (vi x5), some (vi x6)] [] σ (QI F)
abbrev L6_mark_97 (X : En) (σ : Wd) (x1 x2 x3 x5 s0 s1 : Int) (F : Int → Wd → Prop) : Prop := Go X k6_mark 97 [some (vr o_md), some (vi x1), some (vi x2), some (vi x3), none, some (vi x5), none] [vi s0, vi s1] σ (QI F)
set_option maxRecDepth 10000 in
theorem e6_mark {X : En} (hX : XV X) {σ : Wd} {x1 x2 : Int} {F : Int → Wd → Prop} (h :
    TI X k6_isNote [vr o_md, vi x1] σ (fun r1 τ1 =>
    iR r1 ∧
    (¬ r1 = 0 → iR x2 ∧
      (x2 = 0 → L6_mark_27 X τ1 x1 x2 F) ∧
      (¬ (x2 = 0) → TI X k6_find [vr o_md] τ1 (fun r2 τ2 =>
        iR r2 ∧
        (¬ r2 = 0 → L6_mark_27 X τ2 x1 x2 F) ∧
        (¬ (¬ r2 = 0) → F (-1003) τ2)))) ∧
    (¬ (¬ r1 = 0) → F (-1001) τ1))) : TI X k6_mark [vr o_md, vi x1, vi x2] σ F := tr_w hX 12 rfl rfl h
set_option maxRecDepth 10000 in
theorem c6_mark_27 {X : En} {σ : Wd} {x1 x2 : Int} {F : Int → Wd → Prop} (h :
    TV X k6_findOrder [vr o_md] σ (fun τ1 =>
    iR x2 ∧
    (x2 = 0 → (0 ≤ x1 ∧ x1 < 20) ∧ L6_mark_66 X τ1 x1 x2 0 0 (20 * (τ1 md_bands x1)) 1 F) ∧
    (¬ (x2 = 0) → TI X k6_noteLine [vr o_md, vi x1] τ1 (fun r2 τ2 =>
      TI X k6_pageOfLine [vr o_md, vi r2] τ2 (fun r3 τ3 =>
      (0 ≤ x1 ∧ x1 < 20) ∧ L6_mark_66 X τ3 x1 x2 r3 0 (20 * (τ3 md_bands x1)) 1 F))))) : L6_mark_27 X σ x1 x2 F := go_w 24 h
set_option maxRecDepth 10000 in
theorem c6_mark_66 {X : En} {σ : Wd} {x1 x2 x3 x4 x5 x6 : Int} {F : Int → Wd → Prop} (h :
    iR x6 ∧
    (x6 = 0 → F x4 σ) ∧
    (¬ (x6 = 0) → iR x2 ∧
      (x2 = 0 → L6_mark_97 X σ x1 x2 x3 x5 1 x4 F) ∧
      (¬ (x2 = 0) → (0 ≤ x5 ∧ x5 < 60) ∧ TI X k6_pageOfLine [vr o_md, vi (σ md_orderLine x5)] σ (fun r1 τ1 =>
        iR r1 ∧ iR x3 ∧
        (¬ r1 = x3 → L6_mark_97 X τ1 x1 x2 x3 x5 0 x4 F) ∧
        (¬ (¬ r1 = x3) → L6_mark_97 X τ1 x1 x2 x3 x5 1 x4 F))))) : L6_mark_66 X σ x1 x2 x3 x4 x5 x6 F := go_w 17 h
set_option maxRecDepth 10000 in
theorem c6_mark_97 {X : En} {σ : Wd} {x1 x2 x3 x5 s0 s1 : Int} {F : Int → Wd → Prop} (h :
    (0 ≤ x5 ∧ x5 < 60) ∧ iR (σ md_order x5) ∧ iR x1 ∧
    ((σ md_order x5) = x1 → L6_mark_66 X σ x1 x2 x3 (s1 + s0) (x5 + 1) 0 F) ∧
    (¬ ((σ md_order x5) = x1) → L6_mark_66 X σ x1 x2 x3 (s1 + s0) (x5 + 1) 1 F)) : L6_mark_97 X σ x1 x2 x3 x5 s0 s1 F := go_w 15 h
abbrev L6_round_15 (X : En) (σ : Wd) (x1 x2 x3 : Int) (F : Int → Wd → Prop) : Prop := Go X k6_round 15 [some (vr o_md), some (vi x1), some (vi x2), some (vi x3)] [] σ (QI F)
abbrev L6_round_59 (X : En) (σ : Wd) (x2 x3 s0 s1 : Int) (F : Int → Wd → Prop) : Prop := Go X k6_round 59 [some (vr o_md), none, some (vi x2), some (vi x3)] [vi s0, vi s1] σ (QI F)
abbrev L6_round_88 (X : En) (σ : Wd) (x1 x2 x3 : Int) (F : Int → Wd → Prop) : Prop := Go X k6_round 88 [some (vr o_md), some (vi x1), some (vi x2), some (vi x3)] [] σ (QI F)
set_option maxRecDepth 10000 in
theorem e6_round {X : En} (hX : XV X) {σ : Wd} {F : Int → Wd → Prop} (h :
    TI X k6_find [vr o_md] σ (fun r1 τ1 =>
    iR r1 ∧
    (¬ r1 = 0 → L6_round_15 X τ1 0 0 0 F) ∧
    (¬ (¬ r1 = 0) → F (-1) τ1))) : TI X k6_round [vr o_md] σ F := tr_w hX 11 rfl rfl h
set_option maxRecDepth 10000 in
theorem c6_round_15 {X : En} {σ : Wd} {x1 x2 x3 : Int} {F : Int → Wd → Prop} (h :
    iR x3 ∧ iR (σ md_notes 0) ∧
    ((σ md_notes 0) ≤ x3 → L6_round_88 X σ x1 x2 0 F) ∧
    (¬ ((σ md_notes 0) ≤ x3) → (0 ≤ x3 ∧ x3 < 20) ∧ iR (σ md_refers x3) ∧
      ((σ md_refers x3) < 0 → L6_round_59 X σ x2 x3 0 x1 F) ∧
      (¬ ((σ md_refers x3) < 0) → (0 ≤ x3 ∧ x3 < 20) ∧ TI X k6_noteLine [vr o_md, vi (σ md_refers x3)] σ (fun r1 τ1 =>
        TI X k6_pageOfLine [vr o_md, vi r1] τ1 (fun r2 τ2 =>
        iR r2 ∧ iR 9 ∧
        (r2 < 9 → L6_round_59 X τ2 x2 x3 0 x1 F) ∧
        (¬ (r2 < 9) → L6_round_59 X τ2 x2 x3 (bShl 1 x3) x1 F)))))) : L6_round_15 X σ x1 x2 x3 F := go_w 26 h
set_option maxRecDepth 10000 in
theorem c6_round_59 {X : En} {σ : Wd} {x2 x3 s0 s1 : Int} {F : Int → Wd → Prop} (h :
    (0 ≤ x3 ∧ x3 < 20) ∧ iR (σ md_isGrown x3) ∧
    ((σ md_isGrown x3) = 0 → L6_round_15 X σ (bOr s1 s0) (bOr x2 0) (x3 + 1) F) ∧
    (¬ ((σ md_isGrown x3) = 0) → L6_round_15 X σ (bOr s1 s0) (bOr x2 (bShl 1 x3)) (x3 + 1) F)) : L6_round_59 X σ x2 x3 s0 s1 F := go_w 18 h
set_option maxRecDepth 10000 in
theorem c6_round_88 {X : En} {σ : Wd} {x1 x2 x3 : Int} {F : Int → Wd → Prop} (h :
    iR x3 ∧ iR (σ md_notes 0) ∧
    ((σ md_notes 0) ≤ x3 → ((0 : Int) = 0 ∨ (0 : Int) = 1) ∧ ∀ τ1, τ1 = wu σ md_isFound 0 0 →
      iR x1 ∧ iR x2 ∧
      (¬ x1 = x2 → F 1 τ1) ∧
      (¬ (¬ x1 = x2) → F 0 τ1)) ∧
    (¬ ((σ md_notes 0) ≤ x3) → iR (bAnd (bShr x1 x3) 1) ∧ iR 1 ∧
      (¬ (bAnd (bShr x1 x3) 1) = 1 → (0 ≤ x3 ∧ x3 < 20) ∧ ((0 : Int) = 0 ∨ (0 : Int) = 1) ∧ ∀ τ2, τ2 = wu σ md_isGrown x3 0 →
        L6_round_88 X τ2 x1 x2 (x3 + 1) F) ∧
      (¬ (¬ (bAnd (bShr x1 x3) 1) = 1) → (0 ≤ x3 ∧ x3 < 20) ∧ ((1 : Int) = 0 ∨ (1 : Int) = 1) ∧ ∀ τ3, τ3 = wu σ md_isGrown x3 1 →
        L6_round_88 X τ3 x1 x2 (x3 + 1) F))) : L6_round_88 X σ x1 x2 x3 F := go_w 21 h
abbrev L6_settle_18 (X : En) (σ : Wd) (x1 x2 : Int) (F : Int → Wd → Prop) : Prop := Go X k6_settle 18 [some (vr o_md), some (vi x1), some (vi x2), none] [] σ (QI F)
abbrev L6_settle_46 (X : En) (σ : Wd) (x1 x2 : Int) (F : Int → Wd → Prop) : Prop := Go X k6_settle 46 [some (vr o_md), some (vi x1), some (vi x2), none] [] σ (QI F)
set_option maxRecDepth 10000 in
theorem e6_settle {X : En} (hX : XV X) {σ : Wd} {x1 : Int} {F : Int → Wd → Prop} (h :
    iR x1 ∧ TI X k6_in [vl x1, vl 1, vl 9] σ (fun r1 τ1 =>
    iR r1 ∧
    (¬ r1 = 0 → L6_settle_18 X τ1 x1 0 F) ∧
    (¬ (¬ r1 = 0) → F (-1002) τ1))) : TI X k6_settle [vr o_md, vi x1] σ F := tr_w hX 10 rfl rfl h
set_option maxRecDepth 10000 in
theorem c6_settle_18 {X : En} {σ : Wd} {x1 x2 : Int} {F : Int → Wd → Prop} (h :
    iR x2 ∧ iR (σ md_notes 0) ∧
    ((σ md_notes 0) ≤ x2 → ((0 : Int) = 0 ∨ (0 : Int) = 1) ∧ ∀ τ1, τ1 = wu σ md_isFound 0 0 →
      L6_settle_46 X τ1 x1 0 F) ∧
    (¬ ((σ md_notes 0) ≤ x2) → (0 ≤ x2 ∧ x2 < 20) ∧ ((0 : Int) = 0 ∨ (0 : Int) = 1) ∧ ∀ τ2, τ2 = wu σ md_isGrown x2 0 →
      L6_settle_18 X τ2 x1 (x2 + 1) F)) : L6_settle_18 X σ x1 x2 F := go_w 13 h
set_option maxRecDepth 10000 in
theorem c6_settle_46 {X : En} {σ : Wd} {x1 x2 : Int} {F : Int → Wd → Prop} (h :
    iR x2 ∧ iR x1 ∧
    (x1 ≤ x2 → F (-1) σ) ∧
    (¬ (x1 ≤ x2) → TI X k6_round [vr o_md] σ (fun r1 τ1 =>
      iR r1 ∧ iR 1 ∧
      (1 ≤ r1 → L6_settle_46 X τ1 x1 (x2 + 1) F) ∧
      (¬ (1 ≤ r1) → iR r1 ∧
        (0 ≤ r1 → F x2 τ1) ∧
        (¬ (0 ≤ r1) → F (-2) τ1))))) : L6_settle_46 X σ x1 x2 F := go_w 15 h
abbrev L6_least_29 (X : En) (σ : Wd) (x1 x2 x3 x4 : Int) (F : Int → Wd → Prop) : Prop := Go X k6_least 29 [some (vr o_md), some (vi x1), some (vi x2), some (vi x3), some (vi x4)] [] σ (QI F)
set_option maxRecDepth 10000 in
theorem e6_least {X : En} (hX : XV X) {σ : Wd} {x1 : Int} {F : Int → Wd → Prop} (h :
    iR x1 ∧ TI X k6_in [vl x1, vl 1, vl 50] σ (fun r1 τ1 =>
    iR r1 ∧
    (¬ r1 = 0 → (0 ≤ (0 : Int) ∧ (0 : Int) < 9) ∧ L6_least_29 X τ1 x1 (τ1 md_rules 0) (-1) 6 F) ∧
    (¬ (¬ r1 = 0) → F (-1002) τ1))) : TI X k6_least [vr o_md, vi x1] σ F := tr_w hX 17 rfl rfl h
set_option maxRecDepth 10000 in
theorem c6_least_29 {X : En} {σ : Wd} {x1 x2 x3 x4 : Int} {F : Int → Wd → Prop} (h :
    iR x4 ∧ iR 30 ∧
    (30 < x4 → (0 ≤ (0 : Int) ∧ (0 : Int) < 9) ∧ ∀ τ1, τ1 = wu σ md_rules 0 x2 →
      ((0 : Int) = 0 ∨ (0 : Int) = 1) ∧ ∀ τ2, τ2 = wu τ1 md_isFound 0 0 →
      F x3 τ2) ∧
    (¬ (30 < x4) → iR x3 ∧
      (0 ≤ x3 → (0 ≤ (0 : Int) ∧ (0 : Int) < 9) ∧ ∀ τ3, τ3 = wu σ md_rules 0 x2 →
        ((0 : Int) = 0 ∨ (0 : Int) = 1) ∧ ∀ τ4, τ4 = wu τ3 md_isFound 0 0 →
        F x3 τ4) ∧
      (¬ (0 ≤ x3) → (0 ≤ (0 : Int) ∧ (0 : Int) < 9) ∧ ∀ τ5, τ5 = wu σ md_rules 0 x4 →
        ((0 : Int) = 0 ∨ (0 : Int) = 1) ∧ ∀ τ6, τ6 = wu τ5 md_isFound 0 0 →
        TI X k6_find [vr o_md] τ6 (fun r7 τ7 =>
        iR r7 ∧
        (r7 = 0 → L6_least_29 X τ7 x1 x2 (-1) (x4 + 1) F) ∧
        (¬ (r7 = 0) → iR (τ7 md_pages 0) ∧ iR x1 ∧
          (x1 < (τ7 md_pages 0) → L6_least_29 X τ7 x1 x2 (-1) (x4 + 1) F) ∧
          (¬ (x1 < (τ7 md_pages 0)) → L6_least_29 X τ7 x1 x2 x4 (x4 + 1) F)))))) : L6_least_29 X σ x1 x2 x3 x4 F := go_w 27 h
abbrev L6_tried_74 (X : En) (σ : Wd) (x1 x2 x3 : Int) (F : Int → Wd → Prop) : Prop := Go X k6_tried 74 [some (vr o_md), some (vi x1), some (vi x2), some (vi x3), none] [] σ (QI F)
abbrev L6_tried_102 (X : En) (σ : Wd) (x1 x2 x3 : Int) (F : Int → Wd → Prop) : Prop := Go X k6_tried 102 [some (vr o_md), some (vi x1), some (vi x2), some (vi x3), none] [] σ (QI F)
abbrev L6_tried_165 (X : En) (σ : Wd) (x3 x4 : Int) (F : Int → Wd → Prop) : Prop := Go X k6_tried 165 [some (vr o_md), none, none, some (vi x3), some (vi x4)] [] σ (QI F)
abbrev L6_tried_197 (X : En) (σ : Wd) (x3 x4 : Int) (F : Int → Wd → Prop) : Prop := Go X k6_tried 197 [some (vr o_md), none, none, some (vi x3), some (vi x4)] [] σ (QI F)
set_option maxRecDepth 10000 in
theorem e6_tried {X : En} (hX : XV X) {σ : Wd} {x1 x2 : Int} {F : Int → Wd → Prop} (h :
    iR x1 ∧ iR ((σ md_paragraphs 0) - 1) ∧ TI X k6_in [vl x1, vl 0, vl ((σ md_paragraphs 0) - 1)] σ (fun r1 τ1 =>
    iR r1 ∧
    (¬ r1 = 0 → iR x2 ∧ TI X k6_in [vl x2, vl (-8), vl 8] τ1 (fun r2 τ2 =>
      iR r2 ∧
      (¬ r2 = 0 → (0 ≤ x1 ∧ x1 < 16) ∧ iR ((τ2 md_sizes x1) + x2) ∧ TI X k6_in [vl ((τ2 md_sizes x1) + x2), vl 1, vl 9] τ2 (fun r3 τ3 =>
        iR r3 ∧
        (r3 = 0 → F (-1003) τ3) ∧
        (¬ (r3 = 0) → iR ((τ3 md_lines 0) + x2) ∧ iR 50 ∧
          (((τ3 md_lines 0) + x2) ≤ 50 → L6_tried_74 X τ3 x1 x2 0 F) ∧
          (¬ (((τ3 md_lines 0) + x2) ≤ 50) → F (-1003) τ3)))) ∧
      (¬ (¬ r2 = 0) → F (-1002) τ2))) ∧
    (¬ (¬ r1 = 0) → F (-1001) τ1))) : TI X k6_tried [vr o_md, vi x1, vi x2] σ F := tr_w hX 37 rfl rfl h
set_option maxRecDepth 10000 in
theorem c6_tried_74 {X : En} {σ : Wd} {x1 x2 x3 : Int} {F : Int → Wd → Prop} (h :
    iR x3 ∧ iR (σ md_notes 0) ∧
    ((σ md_notes 0) ≤ x3 → L6_tried_102 X σ x1 x2 0 F) ∧
    (¬ ((σ md_notes 0) ≤ x3) → (0 ≤ x3 ∧ x3 < 20) ∧ (0 ≤ x3 ∧ x3 < 20) ∧ ∀ τ1, τ1 = wu σ md_wasNotes x3 (σ md_notePlace x3) →
      L6_tried_74 X τ1 x1 x2 (x3 + 1) F)) : L6_tried_74 X σ x1 x2 x3 F := go_w 16 h
set_option maxRecDepth 10000 in
theorem c6_tried_102 {X : En} {σ : Wd} {x1 x2 x3 : Int} {F : Int → Wd → Prop} (h :
    iR x3 ∧ iR (σ md_figures 0) ∧
    ((σ md_figures 0) ≤ x3 → (0 ≤ x1 ∧ x1 < 16) ∧ (0 ≤ x1 ∧ x1 < 16) ∧ ∀ τ1, τ1 = wu σ md_sizes x1 ((σ md_sizes x1) + x2) →
      TV X k6_clamp [vr o_md, vi x1] τ1 (fun τ2 =>
      TV X k6_findLines [vr o_md] τ2 (fun τ3 =>
      TI X k6_cost [vr o_md] τ3 (fun r4 τ4 =>
      (0 ≤ x1 ∧ x1 < 16) ∧ (0 ≤ x1 ∧ x1 < 16) ∧ ∀ τ5, τ5 = wu τ4 md_sizes x1 ((τ4 md_sizes x1) - x2) →
      L6_tried_165 X τ5 r4 0 F)))) ∧
    (¬ ((σ md_figures 0) ≤ x3) → (0 ≤ x3 ∧ x3 < 4) ∧ (0 ≤ x3 ∧ x3 < 4) ∧ ∀ τ6, τ6 = wu σ md_wasFigures x3 (σ md_figurePlace x3) →
      L6_tried_102 X τ6 x1 x2 (x3 + 1) F)) : L6_tried_102 X σ x1 x2 x3 F := go_w 32 h
set_option maxRecDepth 10000 in
theorem c6_tried_165 {X : En} {σ : Wd} {x3 x4 : Int} {F : Int → Wd → Prop} (h :
    iR x4 ∧ iR (σ md_notes 0) ∧
    ((σ md_notes 0) ≤ x4 → L6_tried_197 X σ x3 0 F) ∧
    (¬ ((σ md_notes 0) ≤ x4) → (0 ≤ x4 ∧ x4 < 20) ∧ (0 ≤ x4 ∧ x4 < 20) ∧ ∀ τ1, τ1 = wu σ md_notePlace x4 (σ md_wasNotes x4) →
      L6_tried_165 X τ1 x3 (x4 + 1) F)) : L6_tried_165 X σ x3 x4 F := go_w 16 h
set_option maxRecDepth 10000 in
theorem c6_tried_197 {X : En} {σ : Wd} {x3 x4 : Int} {F : Int → Wd → Prop} (h :
    iR x4 ∧ iR (σ md_figures 0) ∧
    ((σ md_figures 0) ≤ x4 → TV X k6_findLines [vr o_md] σ (fun τ1 =>
      F x3 τ1)) ∧
    (¬ ((σ md_figures 0) ≤ x4) → (0 ≤ x4 ∧ x4 < 4) ∧ (0 ≤ x4 ∧ x4 < 4) ∧ ∀ τ2, τ2 = wu σ md_figurePlace x4 (σ md_wasFigures x4) →
      L6_tried_197 X τ2 x3 (x4 + 1) F)) : L6_tried_197 X σ x3 x4 F := go_w 16 h
