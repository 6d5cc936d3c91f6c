/-! the step, instruction by instruction -/
theorem slotsV_set {X : En} {σ : Wd} {x : Int} : ∀ (sl : List (Nat ⊕ Nat)) (b k : Nat) {d : Nat ⊕ Nat}, sl[k]? = some d → (slotsV X σ b sl).set k (slotV X (wu σ (b + k) 0 x) (b + k) d) = slotsV X (wu σ (b + k) 0 x) b sl := by
  intro sl b k d hd
  apply List.ext_getElem?
  intro j
  have hl : k < (slotsV X σ b sl).length := by rw [slotsV_len]; exact (List.getElem?_eq_some_iff.mp hd).1
  by_cases hj : j = k
  · subst hj
    rw [List.getElem?_set_self hl, slotsV_get, hd]
    rfl
  · rw [List.getElem?_set_ne (Ne.symm hj), slotsV_get, slotsV_get]
    cases sl[j]? with
    | none => rfl
    | some q => simp only [Option.map_some]; rw [slotV_ne (by omega)]
theorem wu_row {σ : Wd} {c : Nat} {i x : Int} {n : Nat} (h0 : 0 ≤ i) (hn : i < (n : Int)) (hb : n < 2 ^ 31) : upd (fun j : Nat => Int32.ofInt (σ (64 * c) (j : Int))) (Int32.ofInt i).toNatClampNeg (Int32.ofInt x) = fun j : Nat => Int32.ofInt (wu σ (64 * c) i x (64 * c) (j : Int)) := by
  rw [i32_clamp h0 hn hb]
  funext j
  unfold upd wu
  by_cases hj : j = i.toNat
  · rw [if_pos hj, if_pos ⟨rfl, by omega⟩]
  · rw [if_neg hj, if_neg (by rintro ⟨-, h⟩; omega)]
theorem wcp_row {σ : Wd} {a b : Nat} {sp dp n : Int} {na nb : Nat} (h1 : 0 ≤ n) (h2 : 0 ≤ sp) (h3 : 0 ≤ dp) (h4 : sp + n ≤ (na : Int)) (h5 : dp + n ≤ (nb : Int)) (ha : na < 2 ^ 30) (hb : nb < 2 ^ 30) :
    va_cpy (fun j : Nat => Int32.ofInt (σ (64 * a) (j : Int))) (fun j : Nat => Int32.ofInt (σ (64 * b) (j : Int))) (Int32.ofInt sp).toNatClampNeg (Int32.ofInt dp).toNatClampNeg (Int32.ofInt n).toNatClampNeg = fun j : Nat => Int32.ofInt (wcp σ (64 * a) (64 * b) sp dp n (64 * b) (j : Int)) := by
  rw [i32_clamp (n := na + 1) h2 (by omega) (by omega), i32_clamp (n := nb + 1) h3 (by omega) (by omega), i32_clamp (n := nb + 1) h1 (by omega) (by omega)]
  funext j
  unfold va_cpy wcp
  by_cases hj : dp.toNat ≤ j ∧ j < dp.toNat + n.toNat
  · rw [if_pos hj, if_pos ⟨rfl, by omega, by omega⟩]
    have e : ((sp.toNat + (j - dp.toNat) : Nat) : Int) = sp + ((j : Int) - dp) := by omega
    show Int32.ofInt (σ (64 * a) ((sp.toNat + (j - dp.toNat) : Nat) : Int)) = _
    rw [e]
  · rw [if_neg hj, if_neg (by rintro ⟨-, h6, h7⟩; exact hj ⟨by omega, by omega⟩)]
section STP
variable {X : En} {k : Nat} {p : Program} {e : Env} {R : Room} {s : State} {m : MethodId} {args : Array Value} {below : List Frame} {meth : Method} {c : Code} {cells slots : Nat} {Q0 : State → Prop}
theorem s_cmp {pc off : Int} (h : decide (0 ≤ pc + off) = true) : pc + off = ((pc + off).toNat : Int) := by
  have := of_decide_eq_true h
  omega
theorem s_if {c0 : Jvm.ClassFile.Cond} {off x : Int} {pc : Nat} {H : Heap} {locs : List Loc} {a : Array Slot} {rest : List Value} (hx : p.tables.exec = Jvm.exec) (hb : c.code = mC k) (hd : decode (mC k) pc = .ok (.ifCond c0 off, 3)) (hok : decide (0 ≤ (pc : Int) + off) = true) (hr : iR x)
    (k1 : cmpP c0 x 0 → W p (xl X) e R s m args below meth c H locs cells slots Q0 (F0 m (tgt pc off) a rest)) (k2 : ¬ cmpP c0 x 0 → W p (xl X) e R s m args below meth c H locs cells slots Q0 (F0 m (pc + 3) a rest)) : W p (xl X) e R s m args below meth c H locs cells slots Q0 (F0 m pc a (.int (Int32.ofInt x) :: rest)) := by
  have ht := s_cmp hok
  have e0 : Int32.ofInt 0 = 0 := rfl
  cases c0 with
  | eq => exact lv_if_eq (tgt := tgt pc off) hx hb hd ht (fun h => k1 ((i32_eq hr iR_0).mp h)) (fun h => k2 (fun q => h ((i32_eq hr iR_0).mpr q)))
  | ne => exact lv_if_ne (tgt := tgt pc off) hx hb hd ht (fun h => k1 (fun q => h ((i32_eq hr iR_0).mpr q))) (fun h => k2 (fun q => q ((i32_eq hr iR_0).mp h)))
  | lt => exact lv_if_lt (tgt := tgt pc off) hx hb hd ht (fun h => k1 ((i32_lt hr iR_0).mp h)) (fun h => k2 (fun q => h ((i32_lt hr iR_0).mpr q)))
  | ge => exact lv_if_ge (tgt := tgt pc off) hx hb hd ht (fun h => k1 ((i32_le iR_0 hr).mp h)) (fun h => k2 (fun q => h ((i32_le iR_0 hr).mpr q)))
  | gt => exact lv_if_gt (tgt := tgt pc off) hx hb hd ht (fun h => k1 ((i32_lt iR_0 hr).mp h)) (fun h => k2 (fun q => h ((i32_lt iR_0 hr).mpr q)))
  | le => exact lv_if_le (tgt := tgt pc off) hx hb hd ht (fun h => k1 ((i32_le hr iR_0).mp h)) (fun h => k2 (fun q => h ((i32_le hr iR_0).mpr q)))
theorem s_icmp {c0 : Jvm.ClassFile.Cond} {off x y : Int} {pc : Nat} {H : Heap} {locs : List Loc} {a : Array Slot} {rest : List Value} (hx : p.tables.exec = Jvm.exec) (hb : c.code = mC k) (hd : decode (mC k) pc = .ok (.if_icmp c0 off, 3)) (hok : decide (0 ≤ (pc : Int) + off) = true) (hr : iR x) (hy : iR y)
    (k1 : cmpP c0 x y → W p (xl X) e R s m args below meth c H locs cells slots Q0 (F0 m (tgt pc off) a rest)) (k2 : ¬ cmpP c0 x y → W p (xl X) e R s m args below meth c H locs cells slots Q0 (F0 m (pc + 3) a rest)) : W p (xl X) e R s m args below meth c H locs cells slots Q0 (F0 m pc a (.int (Int32.ofInt y) :: .int (Int32.ofInt x) :: rest)) := by
  have ht := s_cmp hok
  cases c0 with
  | eq => exact lv_icmp_eq (tgt := tgt pc off) hx hb hd ht (fun h => k1 ((i32_eq hr hy).mp h)) (fun h => k2 (fun q => h ((i32_eq hr hy).mpr q)))
  | ne => exact lv_icmp_ne (tgt := tgt pc off) hx hb hd ht (fun h => k1 (fun q => h ((i32_eq hr hy).mpr q))) (fun h => k2 (fun q => q ((i32_eq hr hy).mp h)))
  | lt => exact lv_icmp_lt (tgt := tgt pc off) hx hb hd ht (fun h => k1 ((i32_lt hr hy).mp h)) (fun h => k2 (fun q => h ((i32_lt hr hy).mpr q)))
  | ge => exact lv_icmp_ge (tgt := tgt pc off) hx hb hd ht (fun h => k1 ((i32_le hy hr).mp h)) (fun h => k2 (fun q => h ((i32_le hy hr).mpr q)))
  | gt => exact lv_icmp_gt (tgt := tgt pc off) hx hb hd ht (fun h => k1 ((i32_lt hy hr).mp h)) (fun h => k2 (fun q => h ((i32_lt hy hr).mpr q)))
  | le => exact lv_icmp_le (tgt := tgt pc off) hx hb hd ht (fun h => k1 ((i32_le hr hy).mp h)) (fun h => k2 (fun q => h ((i32_le hr hy).mpr q)))
theorem swc_get {x : Int} {F : Int → Prop} : ∀ (l : List Int) (lo : Int), swc x F l lo → lo ≤ x → x < lo + (l.length : Int) → ∃ o, l[(x - lo).toNat]? = some o ∧ F o
  | [], lo, _, h1, h2 => by simp at h2; omega
  | o :: r, lo, h, h1, h2 => by
    by_cases e : x = lo
    · subst e
      exact ⟨o, by simp, h.1 rfl⟩
    · obtain ⟨o', a1, a2⟩ := swc_get r (lo + 1) h.2 (by omega) (by simp at h2; omega)
      refine ⟨o', ?_, a2⟩
      rw [show (x - lo).toNat = (x - (lo + 1)).toNat + 1 by omega]
      simpa using a1
theorem i32_div {x y : Int} (h : 0 ≤ x ∧ iR x ∧ 0 < y ∧ iR y) : ¬ Int32.ofInt y = 0 ∧ Int32.ofInt x / Int32.ofInt y = Int32.ofInt (x / y) ∧ Int32.ofInt x - Int32.ofInt x / Int32.ofInt y * Int32.ofInt y = Int32.ofInt (x % y) := by
  obtain ⟨h1, h2, h3, h4⟩ := h
  have hn : ¬ Int32.ofInt y = 0 := fun q => by
    have := (i32_eq h4 iR_0).mp q
    omega
  obtain ⟨a, rfl⟩ := Int.eq_ofNat_of_zero_le h1
  obtain ⟨b, rfl⟩ := Int.eq_ofNat_of_zero_le (Int.le_of_lt h3)
  have ha : a < 2 ^ 31 := by have := h2.2; omega
  have hb : b < 2 ^ 31 := by have := h4.2; omega
  have hb0 : 0 < b := by omega
  refine ⟨hn, ?_, ?_⟩
  · exact (pk_div ha hb0 hb).trans (by show Int32.ofNat (a / b) = _; rfl)
  · exact (pk_rem ha hb0 hb).trans (by show Int32.ofNat (a % b) = _; rfl)
theorem cmp3_ok {x y : Int} (hx : lR x) (hy : lR y) : lg_cmp (Int64.ofInt x) (Int64.ofInt y) = Int32.ofInt (cmp3 x y) := by
  unfold lg_cmp cmp3
  have e1 : (Int64.ofInt x > Int64.ofInt y) ↔ y < x := by
    show Int64.ofInt y < Int64.ofInt x ↔ _
    rw [Int64.lt_iff_toInt_lt, i64_t hx, i64_t hy]
  have e2 : (Int64.ofInt x = Int64.ofInt y) ↔ x = y := by
    rw [← Int64.toInt_inj, i64_t hx, i64_t hy]
  by_cases h1 : y < x
  · rw [if_pos (e1.mpr h1), if_pos h1]; rfl
  · rw [if_neg (fun q => h1 (e1.mp q)), if_neg h1]
    by_cases h2 : x = y
    · rw [if_pos (e2.mpr h2), if_pos h2]; rfl
    · rw [if_neg (fun q => h2 (e2.mp q)), if_neg h2]; rfl
theorem i2l_ok {x : Int} (h : iR x) : (Int32.ofInt x).toInt64 = Int64.ofInt x := by
  rw [← Int64.toInt_inj, Int32.toInt_toInt64, i32_t h, i64_t ⟨by have := h.1; omega, by have := h.2; omega⟩]
theorem l2i_ok (x : Int) : (Int64.ofInt x).toInt32 = Int32.ofInt x := by
  simp
end STP
section STQ
variable {X : En} {k : Nat} {p : Program} {e : Env} {R : Room} {s : State} {m : MethodId} {args : Array Value} {below : List Frame} {meth : Method} {c : Code} {cells slots : Nat} {Q0 : State → Prop}
theorem s_get {H : Heap} {locs : List Loc} {a : Array Slot} {ls : Lc} {st : List MV} {σ : Wd} {pc idx : Nat} {C : Nat → Lc → List MV → Wd → Prop} (hC : Cx X k p R s m args c) (hd : decode (mC k) pc = .ok (.getfield idx, 3)) (h : cget k C pc idx ls σ st)
    (hS : va_S (xA X) s.heap H locs) (hP : va_P (xD X) vwCl (wd X σ) H) (hL : lv_has a (mL k) (la X ls)) (kk : ∀ pc' ls' st' σ', C pc' ls' st' σ' → WW X k p e R s m args below meth c cells slots Q0 pc' ls' st' σ') : W p (xl X) e R s m args below meth c H locs cells slots Q0 (F0 m pc a (st.map (tv X))) := by
  obtain ⟨hXV, hx, hb, hml, hown, hts, hsz, hEv, hfr, hlo⟩ := id hC
  obtain ⟨b, rest, rfl, h⟩ := cR1_inv h
  obtain ⟨⟨ci, f, z⟩, hlk, h⟩ := cOp_inv h
  obtain ⟨⟨cj, sl⟩, hob, h⟩ := cOp_inv h
  obtain ⟨hcc, h⟩ := cBo_inv h
  obtain ⟨d, hsd, h⟩ := cOp_inv h
  have hcc : cj = ci := by simpa using hcc
  subst hcc
  have hct := obj_ct hob
  obtain ⟨hc7, hlen, hslo⟩ := obj_ok hct
  obtain ⟨i, hi⟩ := zip_mem flT flI fl_len _ (lookup_mem flT hlk)
  obtain ⟨hw, -, hfN, hf64⟩ := fl_ok _ hi
  simp only [flW] at hw
  have hfs : (slotsV X σ (64 * b) sl)[f]? = some (slotV X σ (64 * b + f) d) := by rw [slotsV_get, hsd]; rfl
  have main : ∀ v : MV, tv X v = slotV X σ (64 * b + f) d → C (pc + 3) ls (v :: rest) σ → W p (xl X) e R s m args below meth c H locs cells slots Q0 (F0 m pc a ((vr b :: rest).map (tv X))) := by
    intro v hv hc
    have hfin := kk _ _ _ _ hc H locs a hS hP hL
    have hfin : W p (xl X) e R s m args below meth c H locs cells slots Q0 (F0 m (pc + 3) a (slotV X σ (64 * b + f) d :: rest.map (tv X))) := by rw [← hv]; exact hfin
    by_cases hz : z = 1
    · rw [if_pos hz] at hw
      exact va_getN (own := cN (mO k)) (ref := cN cj) (host := "NotesBelow") hx hb hts (uws_in _ hc7) hown hEv.1 hP b (wd_get hct) (cl_ok _ hc7) f hfN (va_Nw.use rfl (hEv.2.1 _ (nw_in (tbl_in hw) rfl))) (fun x hx => by rw [fT_cls _ hc7 f hfN] at hx; exact hx) hfs hd hfin
    · rw [if_neg hz] at hw
      exact va_get (own := cN (mO k)) (ref := cN cj) hx hb hts (uws_in _ hc7) hown hEv.1 hP b (wd_get hct) (cl_ok _ hc7) f hfN (hts _ (gw_in (tbl_in hw) rfl)) (fun x hx => by rw [fT_cls _ hc7 f hfN] at hx; exact hx) hfs hd hfin
  rcases d with t | y
  · exact main (vr t) rfl h
  · obtain ⟨-, -, hy⟩ := slOK_get cj sl 0 hslo f y hsd
    match y, hy, h, main with
    | 0, _, h, main => exact main (vi (σ (64 * b + f) 0)) rfl h
    | 1, _, h, main => exact main (vi (σ (64 * b + f) 0)) rfl h
    | 2, _, h, main => exact main (vl (σ (64 * b + f) 0)) rfl h
theorem s_put {H : Heap} {locs : List Loc} {a : Array Slot} {ls : Lc} {st : List MV} {σ : Wd} {pc idx : Nat} {C : Nat → Lc → List MV → Wd → Prop} (hC : Cx X k p R s m args c) (hd : decode (mC k) pc = .ok (.putfield idx, 3)) (h : cput k C pc idx ls σ st)
    (hS : va_S (xA X) s.heap H locs) (hP : va_P (xD X) vwCl (wd X σ) H) (hL : lv_has a (mL k) (la X ls)) (kk : ∀ pc' ls' st' σ', C pc' ls' st' σ' → WW X k p e R s m args below meth c cells slots Q0 pc' ls' st' σ') : W p (xl X) e R s m args below meth c H locs cells slots Q0 (F0 m pc a (st.map (tv X))) := by
  obtain ⟨hXV, hx, hb, hml, hown, hts, hsz, hEv, hfr, hlo⟩ := id hC
  unfold cput at h
  split at h
  next st v b rest =>
    obtain ⟨⟨ci, f, z⟩, hlk, h⟩ := cOp_inv h
    obtain ⟨⟨cj, sl⟩, hob, h⟩ := cOp_inv h
    obtain ⟨hcc, h⟩ := cBo_inv h
    obtain ⟨d, hsd, h⟩ := cOp_inv h
    have hcc : cj = ci := by simpa using hcc
    subst hcc
    have hct := obj_ct hob
    obtain ⟨hc7, hlen, hslo⟩ := obj_ok hct
    obtain ⟨i, hi⟩ := zip_mem flT flI fl_len _ (lookup_mem flT hlk)
    obtain ⟨hw, -, hfN, hf64⟩ := fl_ok _ hi
    simp only [flW] at hw
    have hlf : f < (slotsV X σ (64 * b) sl).length := by rw [slotsV_len]; exact (List.getElem?_eq_some_iff.mp hsd).1
    have main : ∀ (x : Int) (y : Nat), d = .inr y → slotV X (wu σ (64 * b + f) 0 x) (64 * b + f) (.inr y) = tv X v → narrow (zTy y) (tv X v) = tv X v → fits (zTy y) (tv X v) = true → C (pc + 3) ls rest (wu σ (64 * b + f) 0 x) → W p (xl X) e R s m args below meth c H locs cells slots Q0 (F0 m pc a ((v :: vr b :: rest).map (tv X))) := by
      intro x y hdy hv hnar hfit hc
      subst hdy
      obtain ⟨hfin, hty, -⟩ := slOK_get cj sl 0 hslo f y hsd
      rw [Nat.zero_add] at hfin hty
      have hpd : parseFieldDescriptor (fT cj f).2.2.1 = some (zTy y) := by rw [fTy_ok cj hc7 f hfN, hty]
      have hset : (wd X σ).set b (xa X b, .inr (cj, (slotsV X σ (64 * b) sl).set f (tv X v))) = wd X (wu σ (64 * b + f) 0 x) := by
        rw [← wd_set (X := X) (σ := σ) (τ := wu σ (64 * b + f) 0 x) hct (wu_off hf64)]
        show _ = (wd X σ).set b (xa X b, .inr (cj, slotsV X (wu σ (64 * b + f) 0 x) (64 * b) sl))
        rw [← slotsV_set sl (64 * b) f hsd, hv]
      have kk' : ∀ (H1 : Heap) (locs1 : List Loc), va_P (xD X) vwCl ((wd X σ).set b (xa X b, .inr (cj, (slotsV X σ (64 * b) sl).set f (tv X v)))) H1 → va_D (xA X) ((wd X σ).set b (xa X b, .inr (cj, (slotsV X σ (64 * b) sl).set f (tv X v)))) → va_S (xA X) s.heap H1 locs1 → W p (xl X) e R s m args below meth c H1 locs1 cells slots Q0 (F0 m (pc + 3) a (rest.map (tv X))) := by
        intro H1 locs1 hP1 _ hS1
        rw [hset] at hP1
        exact kk _ _ _ _ hc H1 locs1 a hS1 hP1 hL
      by_cases hz : z = 1
      · rw [if_pos hz] at hw
        exact va_putN (own := cN (mO k)) (ref := cN cj) (host := "NotesBelow") hx hb hts (uws_in _ hc7) (fTy cj) (fTy_ok cj hc7) (fNm_ok cj hc7) hown hEv.1 hP (wd_D hXV σ) hS b (wd_get hct) (cl_ok _ hc7) f hfN (va_Nw.use rfl (hEv.2.1 _ (nw_in (tbl_in hw) rfl))) (fun x hx => by rw [fT_cls _ hc7 f hfN] at hx; exact hx) hfin hpd hnar hfit hlf hd kk'
      · rw [if_neg hz] at hw
        exact va_put (own := cN (mO k)) (ref := cN cj) hx hb hts (uws_in _ hc7) (fTy cj) (fTy_ok cj hc7) (fNm_ok cj hc7) hown hEv.1 hP (wd_D hXV σ) hS b (wd_get hct) (cl_ok _ hc7) f hfN (hts _ (gw_in (tbl_in hw) rfl)) (fun x hx => by rw [fT_cls _ hc7 f hfN] at hx; exact hx) hfin hpd hnar hfit hlf hd kk'
    have ew : ∀ x : Int, wu σ (64 * b + f) 0 x (64 * b + f) 0 = x := fun x => by simp [wu]
    unfold cpfl at h
    split at h
    · exact main _ 0 rfl (by simp only [slotV, ew, tv]) rfl rfl (h _ rfl)
    · obtain ⟨h01, h⟩ := h
      refine main _ 1 rfl (by simp only [slotV, ew, tv]) ?_ ?_ (h _ rfl)
      · rcases h01 with rfl | rfl <;> rfl
      · rcases h01 with rfl | rfl <;> rfl
    · exact main _ 2 rfl (by simp only [slotV, ew, tv]) rfl rfl (h _ rfl)
    · exact h.elim
  next => exact h.elim
theorem s_ald {H : Heap} {locs : List Loc} {a : Array Slot} {ls : Lc} {st : List MV} {σ : Wd} {pc : Nat} {z : Bool} {C : Nat → Lc → List MV → Wd → Prop} (hC : Cx X k p R s m args c) (hd : decode (mC k) pc = .ok (if z = true then .baload else .iaload, 1)) (h : cald X C z pc ls σ st)
    (hS : va_S (xA X) s.heap H locs) (hP : va_P (xD X) vwCl (wd X σ) H) (hL : lv_has a (mL k) (la X ls)) (kk : ∀ pc' ls' st' σ', C pc' ls' st' σ' → WW X k p e R s m args below meth c cells slots Q0 pc' ls' st' σ') : W p (xl X) e R s m args below meth c H locs cells slots Q0 (F0 m pc a (st.map (tv X))) := by
  obtain ⟨hXV, hx, hb, hml, hown, hts, hsz, hEv, hfr, hlo⟩ := id hC
  unfold cald at h
  split at h
  next st i b rest =>
    split at h
    next z' n har =>
      obtain ⟨hzz, ⟨h0, h1⟩, h⟩ := cBo_inv h
      have hct := arr_ct har
      have hn : n < 2 ^ 30 := arr_ok hct
      have hin := i32_in (i := i) (n := n) h0 h1 (by omega)
      have hcl := i32_clamp (i := i) (n := n) h0 h1 (by omega)
      have hfin := kk _ _ _ _ h H locs a hS hP hL
      have ei : ((i.toNat : Nat) : Int) = i := by omega
      have hzz : z' = z := by simpa using hzz
      subst hzz
      cases z' with
      | false => exact va_iald hx hb hEv.1 hP b 0 (wd_get hct) rfl hin hd (by rw [hcl]; simp only [ei]; exact hfin)
      | true => exact va_zald hx hb hEv.1 hP b 1 (wd_get hct) rfl hin hd (by rw [hcl]; simp only [ei]; exact hfin)
    next =>
      split at h
      · exact h.elim
      · obtain ⟨⟨n, f⟩, hro, ⟨h0, h1⟩, h⟩ := cOp_inv h
        have hn : n < 2 ^ 30 := by
          unfold ro at hro
          split at hro
          · cases hro; decide
          · cases hro; decide
          · cases hro; decide
          · cases hro; have := hXV.2.2; omega
          · cases hro
        have hin := i32_in (i := i) (n := n) h0 h1 (by omega)
        have hcl := i32_clamp (i := i) (n := n) h0 h1 (by omega)
        exact va_ti hx hb (hEv.2.2.1 b n f hro) hS hin (v := tv X (vi (f i.toNat))) (by rw [hcl]; rfl) hd (kk _ _ _ _ h H locs a hS hP hL)
  next => exact h.elim
theorem s_ast {H : Heap} {locs : List Loc} {a : Array Slot} {ls : Lc} {st : List MV} {σ : Wd} {pc : Nat} {z : Bool} {C : Nat → Lc → List MV → Wd → Prop} (hC : Cx X k p R s m args c) (hd : decode (mC k) pc = .ok (if z = true then .bastore else .iastore, 1)) (h : cast_ C z pc ls σ st)
    (hS : va_S (xA X) s.heap H locs) (hP : va_P (xD X) vwCl (wd X σ) H) (hL : lv_has a (mL k) (la X ls)) (kk : ∀ pc' ls' st' σ', C pc' ls' st' σ' → WW X k p e R s m args below meth c cells slots Q0 pc' ls' st' σ') : W p (xl X) e R s m args below meth c H locs cells slots Q0 (F0 m pc a (st.map (tv X))) := by
  obtain ⟨hXV, hx, hb, hml, hown, hts, hsz, hEv, hfr, hlo⟩ := id hC
  unfold cast_ at h
  split at h
  next st x i b rest =>
    obtain ⟨⟨z', n⟩, har, h⟩ := cOp_inv h
    obtain ⟨hzz, ⟨h0, h1⟩, hc⟩ := cBo_inv h
    clear h
    have hct := arr_ct har
    have hn : n < 2 ^ 30 := arr_ok hct
    have hin := i32_in (i := i) (n := n) h0 h1 (by omega)
    have hrow := wu_row (σ := σ) (c := b) (x := x) h0 h1 (by omega)
    have hset : (wd X σ).set b (xa X b, cont X (wu σ (64 * b) i x) b (.inr (z', n))) = wd X (wu σ (64 * b) i x) := wd_set hct (wu_off (k := 0) (by decide))
    have hzz : z' = z := by simpa using hzz
    subst hzz
    cases z' with
    | false =>
      have hc := hc _ rfl
      refine va_iast hx hb hEv.1 hP (wd_D hXV σ) hS b 0 (wd_get hct) rfl hin hd (fun H1 locs1 hP1 _ hS1 => ?_)
      rw [hrow] at hP1
      exact kk _ _ _ _ hc H1 locs1 a hS1 (by rw [← hset]; exact hP1) hL
    | true =>
      obtain ⟨h01, hc⟩ := hc
      have hc := hc _ rfl
      have hx' : vp_nar .boolean (Int32.ofInt x) = Int32.ofInt x := by rcases h01 with rfl | rfl <;> rfl
      refine va_zast hx hb hEv.1 hP (wd_D hXV σ) hS b 1 (wd_get hct) rfl hin hd (fun H1 locs1 hP1 _ hS1 => ?_)
      rw [hx', hrow] at hP1
      exact kk _ _ _ _ hc H1 locs1 a hS1 (by rw [← hset]; exact hP1) hL
  next => exact h.elim
theorem wcp_off {σ : Wd} {a b : Nat} {sp dp n : Int} : ∀ q, (¬ ∃ k, k < 64 ∧ q = 64 * b + k) → wcp σ (64 * a) (64 * b) sp dp n q = σ q := by
  intro q hq
  funext j
  unfold wcp
  rw [if_neg]
  rintro ⟨h1, -⟩
  exact hq ⟨0, by decide, h1⟩
end STQ
