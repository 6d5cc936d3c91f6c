section Falls
/-- a method 'clone' of two bytes: aload_0; athrow -/
def cz_thrower : Method := Lib.HandJ.method "clone" "()Ljava/lang/Object;" [] (some (.object "java/lang/Object")) 0x1 1 ⟨#[0x2a, 0xbf]⟩
/-- one more entry for the table: its kind is 'array of int', its only method is that one -/
def cz_cls : Class := { start1.cArr "Odd" 16 .int with methods := #[cz_thrower] }
/-- the printed start, with that entry at the table's end, borne by the cell of AT_FIRST -/
def cz_bad : State := { start1.about with
  vm := { start1.about.vm with classes := start1.about.vm.classes.push cz_cls }
  heap := start1.about.heap.modify 5 (fun k => { k with cls := 22 }) }
/-- the invoker's frame, as the printed start has it -/
def cz_low : Frame → Bool
  | .native g => decide (g.method = ⟨0, 0⟩) && decide (g.args = #[]) && decide (g.stage = 0) && decide (g.saved = #[]) && !g.awaiting && g.answer.isNone && g.locked.isNone && decide (g.words = 0)
  | _ => false
theorem cz_low_eq {f : Frame} (h : cz_low f = true) : [f] = Lib.HandBits.below0 := by
  unfold cz_low at h
  split at h
  · rename_i g
    simp only [Bool.and_eq_true, decide_eq_true_eq, Bool.not_eq_true', Option.isNone_iff_eq_none] at h
    obtain ⟨⟨⟨⟨⟨⟨⟨h1, h2⟩, h3⟩, h4⟩, h5⟩, h6⟩, h7⟩, h8⟩ := h
    cases g
    simp only at h1 h2 h3 h4 h5 h6 h7 h8
    subst h1 h2 h3 h4 h5 h6 h7 h8
    rfl
  · cases h
/-- what lies above the invoker's frame -/
def cz_above : List Frame → Option (List Frame)
  | [] => none
  | [f] => if cz_low f then some [] else none
  | f :: g :: r => (cz_above (g :: r)).map (f :: ·)
theorem cz_above_eq : ∀ {fs ab : List Frame}, cz_above fs = some ab → fs = ab ++ Lib.HandBits.below0
  | [], ab, h => by cases h
  | [f], ab, h => by
    unfold cz_above at h
    split at h
    · rename_i hf
      cases h
      exact cz_low_eq hf
    · cases h
  | f :: g :: r, ab, h => by
    unfold cz_above at h
    rw [Option.map_eq_some_iff] at h
    obtain ⟨a, h1, h2⟩ := h
    subst h2
    rw [cz_above_eq h1]
    rfl
/-- the call is under way -/
def cz_in (s : State) : Bool := match cz_above s.frames with
  | none => false
  | some [] => false
  | some [.throwing _] => false
  | some _ => true
theorem cz_in_within {s : State} (h : cz_in s = true) : Within s Lib.HandBits.below0 := by
  unfold cz_in at h
  split at h
  · cases h
  · cases h
  · cases h
  · rename_i ab h1 h2 he
    refine ⟨ab, cz_above_eq he, ?_, ?_⟩
    · intro hc; exact h1 hc
    · intro a hc; exact h2 a hc
/-- the call has ended by a throw -/
def cz_out (s : State) : Bool := match cz_above s.frames with
  | some [.throwing _] => true
  | _ => false
theorem cz_out_ended {s : State} (h : cz_out s = true) : ∃ a, Ended s Lib.HandBits.below0 (.threw a) := by
  unfold cz_out at h
  split at h
  · rename_i a he
    exact ⟨a, cz_above_eq he⟩
  · cases h
/-- the thread may step -/
def cz_may (s : State) : Bool := decide (s.status = Status.running) && decide (s.curStatus? = some ThreadStatus.runnable) && s.alone
/-- within n steps the call ends by a throw, and till there it is under way -/
def cz_ok (e : Env) : Nat → State → Bool
  | 0, _ => false
  | n + 1, s => cz_may s && (cz_out s || (cz_in s && cz_ok e n (stepThread start1.p0.tables e s).1))
theorem cz_step {e : Env} {s : State} (h : cz_may s = true) (k : Nat) : stepsAlone start1.p0.tables e (k + 1) s = stepsAlone start1.p0.tables e k (stepThread start1.p0.tables e s).1 := by
  unfold cz_may at h
  simp only [Bool.and_eq_true, decide_eq_true_eq] at h
  obtain ⟨⟨h1, h2⟩, h3⟩ := h
  show (match s.status, s.curStatus?, s.alone with
    | .running, some .runnable, true => stepsAlone start1.p0.tables e k (stepThread start1.p0.tables e s).1
    | _, _, _ => s) = _
  rw [h1, h2, h3]
theorem cz_ends {e : Env} : ∀ (m : Nat) (s : State), cz_ok e m s = true → ∃ (n : Nat) (a : Addr), (∀ k, k < n → Within (stepsAlone start1.p0.tables e k s) Lib.HandBits.below0) ∧ (stepsAlone start1.p0.tables e n s).status = Status.running ∧ Ended (stepsAlone start1.p0.tables e n s) Lib.HandBits.below0 (.threw a)
  | 0, s, h => by cases h
  | m + 1, s, h => by
    unfold cz_ok at h
    rw [Bool.and_eq_true, Bool.or_eq_true] at h
    obtain ⟨h1, h2⟩ := h
    have hr : s.status = Status.running := by
      unfold cz_may at h1
      simp only [Bool.and_eq_true, decide_eq_true_eq] at h1
      exact h1.1.1
    rcases h2 with h2 | h2
    · obtain ⟨a, ha⟩ := cz_out_ended h2
      exact ⟨0, a, fun k hk => absurd hk (Nat.not_lt_zero k), hr, ha⟩
    · rw [Bool.and_eq_true] at h2
      obtain ⟨h3, h4⟩ := h2
      obtain ⟨n, a, hw, hs, he⟩ := cz_ends m _ h4
      refine ⟨n + 1, a, ?_, ?_, ?_⟩
      · intro k hk
        cases k with
        | zero => exact cz_in_within h3
        | succ k => rw [cz_step h1 k]; exact hw k (Nat.lt_of_succ_lt_succ hk)
      · rw [cz_step h1 n]; exact hs
      · rw [cz_step h1 n]; exact he
set_option maxRecDepth 16384 in
/-- the run itself, by the kernel: the law, the constructor, AT_FIRST.clone(), a throw, and out of the law -/
theorem cz_runs : cz_ok start1.e0 80 cz_bad = true := by decide +kernel
end Falls
