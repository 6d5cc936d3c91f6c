/-! THE REFERENCE: rule, fault, told, count, refer: answers out of the abstract state -/
theorem n_iR (n : Int) (h : -5000 ≤ n ∧ n ≤ 5000) : iR n := ⟨by omega, by omega⟩
def ansRule (A : Wd) (w : Int) : Int := if 0 ≤ w ∧ w < 9 then A aR w else -1002
theorem m_rule {X : En} (hX : XV X) {A σ : Wd} (hR : ∀ k, 0 ≤ k → k < 9 → σ md_rules k = A aR k) {w : Int} (hw : iR w) {F : Int → Wd → Prop} (kk : F (ansRule A w) σ) : TI X k6_rule [vr o_md, vi w] σ F := by
  refine e6_rule hX ⟨hw, m_in hX (lR_i hw) (lR_i iR_0) ⟨by decide, by decide⟩ (fun c => ?_) (fun c => ?_)⟩
  · have e : ansRule A w = A aR w := by unfold ansRule; rw [if_pos (by omega)]
    rw [e] at kk
    refine ⟨n_iR 1 (by decide), fun h => absurd h (by decide), fun _ => ⟨by omega, ?_⟩⟩
    rw [hR w c.1 (by omega)]
    exact kk
  · have e : ansRule A w = -1002 := by unfold ansRule; rw [if_neg (by omega)]
    rw [e] at kk
    exact ⟨iR_0, fun _ => kk, fun h => absurd rfl h⟩
theorem m_fault {X : En} (hX : XV X) {A σ : Wd} (hF : σ md_faultPlace 0 = A aF 0) {F : Int → Wd → Prop} (kk : F (A aF 0) σ) : TI X k6_fault [vr o_md] σ F := by
  refine e6_fault hX ?_
  rw [hF]
  exact kk
def ansTold (A : Wd) (n w : Int) : Int := if ¬ (0 ≤ n ∧ n < A aN 0) then -1001 else if w = 0 then A aL n else if w = 1 then A aB n else if w = 2 then A aW n + A aG n else if w = 3 then A aO n else if w = 4 then A aG n else -1002
theorem m_told {X : En} (hX : XV X) {A σ : Wd} (hA : WFp A) (hP : ParM σ A) (hN : NotM σ A) (hn20 : 0 ≤ A aN 0 ∧ A aN 0 ≤ 20) (hG : ∀ n, 0 ≤ n → n < A aN 0 → A aG n = 0 ∨ A aG n = 1) {n w : Int} (hn : iR n) (hw : iR w) {F : Int → Wd → Prop} (kk : F (ansTold A n w) σ) : TI X k6_told [vr o_md, vi n, vi w] σ F := by
  obtain ⟨n1, n2⟩ := hN
  have hs : ∀ p, 0 ≤ p → p < A aP 0 → σ md_sizes p = A aS p := fun p a b => (hP.2.1 p a b).2
  refine e6_told hX (m_isNote hX hn (by rw [n1]; exact hn20) (fun c => ?_) (fun c => ?_))
  · rw [n1] at c
    have hm := n2 n c.1 c.2
    have hg := hG n c.1 c.2
    have h20 : n < 20 := by omega
    refine ⟨n_iR 1 (by decide), fun _ => ⟨hw, ⟨fun q => ?_, fun q => ?_, fun q => ?_, fun q => ?_, fun q => ?_, trivial⟩, fun q => ?_⟩, fun h => absurd (by decide) h⟩
    · subst q
      have e : ansTold A n 0 = A aL n := by unfold ansTold; rw [if_neg (fun z => z c), if_pos rfl]
      rw [e] at kk
      exact m_noteLine hX hA hs c.1 h20 hm kk
    · subst q
      have e : ansTold A n 1 = A aB n := by unfold ansTold; rw [if_neg (fun z => z c), if_neg (by decide), if_pos rfl]
      rw [e] at kk
      exact ⟨⟨c.1, h20⟩, by rw [hm.2.2.2.1]; exact kk⟩
    · subst q
      have e : ansTold A n 2 = A aW n + A aG n := by unfold ansTold; rw [if_neg (fun z => z c), if_neg (by decide), if_neg (by decide), if_pos rfl]
      rw [e] at kk
      exact m_rowsOf hX c.1 h20 hm hg kk
    · subst q
      have e : ansTold A n 3 = A aO n := by unfold ansTold; rw [if_neg (fun z => z c), if_neg (by decide), if_neg (by decide), if_neg (by decide), if_pos rfl]
      rw [e] at kk
      exact ⟨⟨c.1, h20⟩, by rw [hm.2.2.2.2.2.1]; exact kk⟩
    · subst q
      have e : ansTold A n 4 = A aG n := by unfold ansTold; rw [if_neg (fun z => z c), if_neg (by decide), if_neg (by decide), if_neg (by decide), if_neg (by decide), if_pos rfl]
      rw [e] at kk
      have hgm : σ md_isGrown n = A aG n := hm.2.2.2.2.2.2
      rw [hgm]
      refine ⟨⟨c.1, h20⟩, iR_b hg, fun z => by rw [z] at kk; exact kk, fun z => ?_⟩
      have z1 : A aG n = 1 := by omega
      rw [z1] at kk
      exact kk
    · have e : ansTold A n w = -1002 := by unfold ansTold; rw [if_neg (fun z => z c), if_neg (by omega), if_neg (by omega), if_neg (by omega), if_neg (by omega), if_neg (by omega)]
      rw [e] at kk
      exact kk
  · rw [n1] at c
    have e : ansTold A n w = -1001 := by unfold ansTold; rw [if_pos c]
    rw [e] at kk
    exact ⟨iR_0, fun h => absurd rfl h, fun _ => kk⟩
/-- how many of the first n NOTES are GROWN -/
def grN (A : Wd) : Nat → Int
  | 0 => 0
  | n + 1 => grN A n + A aG (n : Int)
def ansCount (A : Wd) (w : Int) : Int := if w = 0 then A aP 0 else if w = 1 then aLn A else if w = 2 then A aN 0 else if w = 3 then A aM 0 else if w = 4 then A aTn 0 else if w = 5 then grN A (A aN 0).toNat else -1002
theorem count_go {X : En} {A σ : Wd} (hP : ParM σ A) (hN : NotM σ A) (hM : σ md_figures 0 = A aM 0) (hT : σ md_texted 0 = A aTn 0) (hn20 : A aN 0 ≤ 20) (hG : ∀ n, 0 ≤ n → n < A aN 0 → A aG n = 0 ∨ A aG n = 1) {w : Int} (hw : iR w) {F : Int → Wd → Prop} (kk : F (ansCount A w) σ) : ∀ (m n : Nat) {acc : Int}, ((n + m : Nat) : Int) = A aN 0 → acc = grN A n → L6_count_4 X σ w acc (n : Int) F
  | 0, n, acc, h1, h2 => by
    have n1 := hN.1
    refine c6_count_4 ⟨⟨by omega, by omega⟩, ⟨by omega, by omega⟩, fun _ => ⟨hw, ⟨fun q => ?_, fun q => ?_, fun q => ?_, fun q => ?_, fun q => ?_, fun q => ?_, trivial⟩, fun q => ?_⟩, fun h => absurd (by omega) h⟩
    · subst q; rw [hP.1]; exact kk
    · subst q; rw [hP.2.2.1]; exact kk
    · subst q; rw [n1]; exact kk
    · subst q; rw [hM]; exact kk
    · subst q; rw [hT]; exact kk
    · subst q
      have e : ansCount A 5 = acc := by
        show grN A (A aN 0).toNat = acc
        rw [h2, show (A aN 0).toNat = n by omega]
      rw [e] at kk
      exact kk
    · have e : ansCount A w = -1002 := by unfold ansCount; rw [if_neg (by omega), if_neg (by omega), if_neg (by omega), if_neg (by omega), if_neg (by omega), if_neg (by omega)]
      rw [e] at kk
      exact kk
  | m + 1, n, acc, h1, h2 => by
    have n1 := hN.1
    have hlt : (n : Int) < A aN 0 := by omega
    have hgm : σ md_isGrown (n : Int) = A aG (n : Int) := (hN.2 n (by omega) hlt).2.2.2.2.2.2
    have hg := hG n (by omega) hlt
    refine c6_count_4 ⟨⟨by omega, by omega⟩, ⟨by omega, by omega⟩, fun h => absurd h (by omega), fun _ => ⟨⟨by omega, by omega⟩, ?_⟩⟩
    rw [hgm]
    refine ⟨iR_b hg, fun z => ?_, fun z => ?_⟩
    · exact count_go hP hN hM hT hn20 hG hw kk m (n + 1) (by omega) (by show acc + 0 = grN A n + A aG (n : Int); omega)
    · exact count_go hP hN hM hT hn20 hG hw kk m (n + 1) (by omega) (by show acc + 1 = grN A n + A aG (n : Int); omega)
theorem m_count {X : En} (hX : XV X) {A σ : Wd} (hP : ParM σ A) (hN : NotM σ A) (hM : σ md_figures 0 = A aM 0) (hT : σ md_texted 0 = A aTn 0) (hn20 : 0 ≤ A aN 0 ∧ A aN 0 ≤ 20) (hG : ∀ n, 0 ≤ n → n < A aN 0 → A aG n = 0 ∨ A aG n = 1) {w : Int} (hw : iR w) {F : Int → Wd → Prop} (kk : F (ansCount A w) σ) : TI X k6_count [vr o_md, vi w] σ F :=
  e6_count hX (count_go hP hN hM hT hn20.2 hG hw kk (A aN 0).toNat 0 (by omega) rfl)
/-- a NOTE refers -/
def opRef (A : Wd) (n to : Int) : Wd := wu (wu A aO n to) aG n 0
def okRef (A : Wd) (n to : Int) : Prop := (0 ≤ n ∧ n < A aN 0) ∧ (to = -1 ∨ 0 ≤ to ∧ to < A aN 0) ∧ n ≠ to
theorem refer_go {X : En} {A σ : Wd} (hN : NotM σ A) (hn20 : A aN 0 ≤ 20) {n to : Int} (hn : 0 ≤ n ∧ n < A aN 0) (rn : iR n) (rt : iR to) {F : Int → Wd → Prop} (k0 : n = to → F (-1001) σ) (k1 : n ≠ to → ∀ τ, Fr [md_refers, md_isGrown, md_isFound] σ τ → (∀ j, τ md_refers j = if j = n then to else σ md_refers j) → (∀ j, τ md_isGrown j = if j = n then 0 else σ md_isGrown j) → τ md_isFound 0 = 0 → F (A aO n) τ) : L6_refer_21 X σ n to F := by
  have h20 : n < 20 := by omega
  refine c6_refer_21 ⟨rn, rt, fun q => ⟨⟨hn.1, h20⟩, ⟨hn.1, h20⟩, fun τ1 e1 => ⟨⟨hn.1, h20⟩, Or.inl rfl, fun τ2 e2 => ⟨Or.inl rfl, fun τ3 e3 => ?_⟩⟩⟩, fun q => k0 (Classical.not_not.mp q)⟩
  rw [(hN.2 n hn.1 hn.2).2.2.2.2.2.1]
  refine k1 q τ3 ?_ (fun j => ?_) (fun j => ?_) (by rw [e3]; exact wu_eq)
  · rw [e3, e2, e1]
    exact Fr_wu (Fr_wu (Fr_wu Fr_rfl (by decide)) (by decide)) (by decide)
  · rw [e3, wu_ne (by decide), e2, wu_ne (by decide), e1, wu_at]
  · rw [e3, wu_ne (by decide), e2, wu_at, e1, wu_ne (by decide)]
theorem m_refer {X : En} (hX : XV X) {A σ : Wd} (hN : NotM σ A) (hn20 : 0 ≤ A aN 0 ∧ A aN 0 ≤ 20) {n to : Int} (rn : iR n) (rt : iR to) {F : Int → Wd → Prop} (k0 : ¬ okRef A n to → F (-1001) σ) (k1 : okRef A n to → ∀ τ, Fr [md_refers, md_isGrown, md_isFound] σ τ → (∀ j, τ md_refers j = if j = n then to else σ md_refers j) → (∀ j, τ md_isGrown j = if j = n then 0 else σ md_isGrown j) → τ md_isFound 0 = 0 → F (A aO n) τ) : TI X k6_refer [vr o_md, vi n, vi to] σ F := by
  have n1 := hN.1
  have hb : 0 ≤ σ md_notes 0 ∧ σ md_notes 0 ≤ 20 := by rw [n1]; exact hn20
  refine e6_refer hX (m_isNote hX rn hb (fun c => ?_) (fun c => ?_))
  · rw [n1] at c
    refine ⟨n_iR 1 (by decide), fun h => absurd h (by decide), fun _ => ⟨rt, n_iR (-1) (by decide), fun q => ?_, fun q => m_isNote hX rt hb (fun d => ?_) (fun d => ?_)⟩⟩
    · exact refer_go hN hn20.2 c rn rt (fun z => k0 (fun o => o.2.2 z)) (fun z => k1 ⟨c, Or.inl q, z⟩)
    · rw [n1] at d
      exact ⟨n_iR 1 (by decide), fun h => absurd h (by decide), fun _ => refer_go hN hn20.2 c rn rt (fun z => k0 (fun o => o.2.2 z)) (fun z => k1 ⟨c, Or.inr d, z⟩)⟩
    · rw [n1] at d
      exact ⟨iR_0, fun _ => k0 (fun o => o.2.1.elim q d), fun h => absurd rfl h⟩
  · rw [n1] at c
    exact ⟨iR_0, fun _ => k0 (fun o => c o.1), fun h => absurd rfl h⟩
