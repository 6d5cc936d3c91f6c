section Counter
/-- a method 'clone' of three bytes: goto 0 -/
def ct_loop : Method := Lib.HandJ.method "clone" "()Ljava/lang/Object;" [] (some (.object "java/lang/Object")) 0x1 1 ⟨#[0xa7, 0x00, 0x00]⟩
/-- one more entry for the table: its kind is 'array of int', its only method is that one -/
def ct_cls : Class := { start1.cArr "Odd" 16 .int with methods := #[ct_loop] }
/-- the printed start, with that entry at the table's end, borne by the cell of AT_FIRST -/
def ct_bad : State := { start1.about with
  vm := { start1.about.vm with classes := start1.about.vm.classes.push ct_cls }
  heap := start1.about.heap.modify 5 (fun k => { k with cls := 22 }) }
/-- the call is under way: more than the invoker's frame stands, and the top one is no 'throwing' -/
def ct_in (s : State) : Bool := match s.frames with
  | .throwing _ :: _ => false
  | fs => decide (1 < fs.length)
theorem ct_in_not {s : State} (h : ct_in s = true) (o : Outcome) : ¬ Ended s Lib.HandBits.below0 o := by
  intro he
  cases o with
  | threw a =>
    have he : s.frames = Frame.throwing a :: Lib.HandBits.below0 := he
    unfold ct_in at h
    rw [he] at h
    simp at h
  | returned v =>
    have he : s.frames = Frame.native { ({ method := ⟨0, 0⟩, args := #[] } : NFrame) with awaiting := false, answer := some (.returned v) } :: [] := he
    unfold ct_in at h
    rw [he] at h
    simp at h
/-- at a 'goto 0' that nothing is run instead of -/
def ct_at (s : State) : Bool := match s.frames with
  | .java f :: _ => (match s.code? f.method with
    | some c => (match decode c.code f.pc with
      | .ok (.goto o, _) => decide (o = 0)
      | _ => false)
    | none => false) && (match s.vm.classes[f.method.cls]? with
    | some k => plainName k.name
    | none => false)
  | _ => false
/-- a step at 'goto 0' leaves the state as it is -/
theorem ct_stay {p : Program} (hexec : p.tables.exec = Jvm.exec) {e : Env} {s : State} (h : ct_at s = true) : (stepThread p.tables e s).1 = s := by
  unfold ct_at at h
  split at h
  case h_2 => cases h
  case h_1 f r hf =>
    rw [Bool.and_eq_true] at h
    obtain ⟨h1, h2⟩ := h
    split at h1
    case h_2 => cases h1
    case h_1 c hc =>
      split at h1
      case h_2 => cases h1
      case h_1 o len hd =>
        have ho : o = 0 := by simpa using h1
        subst ho
        split at h2
        case h_2 => cases h2
        case h_1 k hk =>
          have hp : s.plainMethod f.method := State.plainMethod.of_name (fun k' hk' => by rw [hk] at hk'; cases hk'; exact h2)
          have ht := State.topJava?_of_frames hf
          rw [stepThread_java hf hp hc hd, hexec]
          have e1 : (Jvm.exec (.goto 0)).run e s = .ctl (.branch 0) s [.mark "op.goto"] := rfl
          rw [e1]
          have e2 := afterInstr_branch e len f [.mark "op.goto"] 0 (s := s) (by rw [ht]; rfl) (by omega)
          rw [State.setTop_self ht] at e2
          rw [e2]
          have e3 : ({ f with pc := ((f.pc : Int) + 0).toNat } : JFrame) = f := by simp
          rw [e3, State.setTop_self ht]
/-- n steps at the most lead to a 'goto 0', and till there the call is under way -/
def ct_ok (e : Env) : Nat → State → Bool
  | 0, _ => false
  | n + 1, s => ct_in s && (ct_at s || ct_ok e n (stepThread start1.p0.tables e s).1)
theorem ct_forever {e : Env} {s : State} (h : ct_at s = true) : ∀ k, stepsAlone start1.p0.tables e k s = s := by
  intro k
  induction k with
  | zero => rfl
  | succ k ih =>
    unfold stepsAlone
    split
    · rw [ct_stay rfl h]; exact ih
    · rfl
theorem ct_never {e : Env} : ∀ (n : Nat) (s : State), ct_ok e n s = true → ∀ k, ct_in (stepsAlone start1.p0.tables e k s) = true
  | 0, s, h, k => by cases h
  | n + 1, s, h, k => by
    unfold ct_ok at h
    rw [Bool.and_eq_true, Bool.or_eq_true] at h
    obtain ⟨h1, h2⟩ := h
    rcases h2 with h2 | h2
    · rw [ct_forever h2]; exact h1
    · cases k with
      | zero => exact h1
      | succ k =>
        unfold stepsAlone
        split
        · exact ct_never n _ h2 k
        · exact h1
/-- the run itself, by the kernel: the law, the constructor, AT_FIRST.clone(), and there for ever -/
theorem ct_runs : ct_ok start1.e0 40 ct_bad = true := by decide +kernel
end Counter
