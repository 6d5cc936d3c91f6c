section
section Counter
/-- a method 'clone' of three bytes: goto 0 -/
def ct_loop : Method := Lib.HandJ.method "clone" "()Ljava/lang/Object;" [] (some (.object "java/lang/Object")) 0x1 1 ⟨#[0xa7, 0x00, 0x00]⟩
/-- one more entry for the table: its kind is 'array of int', its only method is that one -/
def ct_cls : Class := { start1.cArr "Odd" 16 .int with methods := #[ct_loop] }
/-- the printed start, with that entry at the table's end, borne by the cell of AT_FIRST -/
def ct_bad : State := { start1.about with
  vm := { start1.about.vm with classes := start1.about.vm.classes.push ct_cls }
  heap := start1.about.heap.modify 5 (fun k => { k with cls := 22 }) }
/-- the call is under way: more than the invoker's frame stands, and the top one is no 'throwing' -/
def ct_in (s : State) : Bool := match s.frames with
  | .throwing _ :: _ => false
  | fs => decide (1 < fs.length)
theorem ct_in_not {s : State} (h : ct_in s = true) (o : Outcome) : ¬ Ended s Lib.HandBits.below0 o := by
  intro he
  cases o with
  | threw a =>
    have he : s.frames = Frame.throwing a :: Lib.HandBits.below0 := he
    unfold ct_in at h
    rw [he] at h
    simp at h
  | returned v =>
    have he : s.frames = Frame.native { ({ method := ⟨0, 0⟩, args := #[] } : NFrame) with awaiting := false, answer := some (.returned v) } :: [] := he
    unfold ct_in at h
    rw [he] at h
    simp at h
/-- at a 'goto 0' that nothing is run instead of -/
def ct_at (s : State) : Bool := match s.frames with
  | .java f :: _ => (match s.code? f.method with
    | some c => (match decode c.code f.pc with
      | .ok (.goto o, _) => decide (o = 0)
      | _ => false)
    | none => false) && (match s.vm.classes[f.method.cls]? with
    | some k => plainName k.name
    | none => false)
  | _ => false
/-- a step at 'goto 0' leaves the state as it is -/
theorem ct_stay {p : Program} (hexec : p.tables.exec = Jvm.exec) {e : Env} {s : State} (h : ct_at s = true) : (stepThread p.tables e s).1 = s := by
  unfold ct_at at h
  split at h
  case h_2 => cases h
  case h_1 f r hf =>
    rw [Bool.and_eq_true] at h
    obtain ⟨h1, h2⟩ := h
    split at h1
    case h_2 => cases h1
    case h_1 c hc =>
      split at h1
      case h_2 => cases h1
      case h_1 o len hd =>
        have ho : o = 0 := by simpa using h1
        subst ho
        split at h2
        case h_2 => cases h2
        case h_1 k hk =>
          have hp : s.plainMethod f.method := State.plainMethod.of_name (fun k' hk' => by rw [hk] at hk'; cases hk'; exact h2)
          have ht := State.topJava?_of_frames hf
          rw [stepThread_java hf hp hc hd, hexec]
          have e1 : (Jvm.exec (.goto 0)).run e s = .ctl (.branch 0) s [.mark "op.goto"] := rfl
          rw [e1]
          have e2 := afterInstr_branch e len f [.mark "op.goto"] 0 (s := s) (by rw [ht]; rfl) (by omega)
          rw [State.setTop_self ht] at e2
          rw [e2]
          have e3 : ({ f with pc := ((f.pc : Int) + 0).toNat } : JFrame) = f := by simp
          rw [e3, State.setTop_self ht]
/-- n steps at the most lead to a 'goto 0', and till there the call is under way -/
def ct_ok (e : Env) : Nat → State → Bool
  | 0, _ => false
  | n + 1, s => ct_in s && (ct_at s || ct_ok e n (stepThread start1.p0.tables e s).1)
theorem ct_forever {e : Env} {s : State} (h : ct_at s = true) : ∀ k, stepsAlone start1.p0.tables e k s = s := by
  intro k
  induction k with
  | zero => rfl
  | succ k ih =>
    unfold stepsAlone
    split
    · rw [ct_stay rfl h]; exact ih
    · rfl
theorem ct_never {e : Env} : ∀ (n : Nat) (s : State), ct_ok e n s = true → ∀ k, ct_in (stepsAlone start1.p0.tables e k s) = true
  | 0, s, h, k => by cases h
  | n + 1, s, h, k => by
    unfold ct_ok at h
    rw [Bool.and_eq_true, Bool.or_eq_true] at h
    obtain ⟨h1, h2⟩ := h
    rcases h2 with h2 | h2
    · rw [ct_forever h2]; exact h1
    · cases k with
      | zero => exact h1
      | succ k =>
        unfold stepsAlone
        split
        · exact ct_never n _ h2 k
        · exact h1
/-- the run itself, by the kernel: the law, the constructor, AT_FIRST.clone(), and there for ever -/
theorem ct_runs : ct_ok start1.e0 40 ct_bad = true := by decide +kernel
end Counter
end
section
section Words
/-! what the table said of a name it says with the entry at its end too -/
theorem ct_found {q : String} {i : ClassId} (h : start1.about.vm.findClass q = some i) : ct_bad.vm.findClass q = some i := by
  unfold Vm.findClass at h ⊢
  show (start1.about.vm.classes.push ct_cls).findIdx? _ = some i
  rw [Array.findIdx?_push, h]
  rfl
theorem ct_entry {i : ClassId} {k : Class} (h : start1.about.vm.classes[i]? = some k) : ct_bad.vm.classes[i]? = some k := by
  show (start1.about.vm.classes.push ct_cls)[i]? = some k
  have hi : i < start1.about.vm.classes.size := (Array.getElem?_eq_some_iff.mp h).1
  rw [Array.getElem?_push_lt hi, ← h]
  simp
theorem ct_named {y : MethodName} {m : MethodId} (h : start1.about.methodNamed? y = some m) : ct_bad.methodNamed? y = some m := by
  unfold State.methodNamed? at h ⊢
  simp only [Option.bind_eq_bind, Option.bind_eq_some_iff] at h ⊢
  obtain ⟨a, h1, b, h2, h3⟩ := h
  exact ⟨a, ct_found h1, b, ct_entry h2, h3⟩
theorem ct_meth {m : MethodId} {y : Method} (h : start1.about.vm.method? m = some y) : ct_bad.vm.method? m = some y := by
  unfold Vm.method? at h ⊢
  simp only [Option.bind_eq_bind, Option.bind_eq_some_iff] at h ⊢
  obtain ⟨a, h1, h2⟩ := h
  exact ⟨a, ct_entry h1, h2⟩
theorem ct_code {y : MethodName} {bytes : ByteArray} {maxL : Nat} {ret : Option FieldType} (h : (Jvm.Cond.code y bytes maxL ret).before start1.args0 start1.about = true) : (Jvm.Cond.code y bytes maxL ret).before start1.args0 ct_bad = true := by
  rw [Cond.before_iff] at h ⊢
  simp only [Cond.value] at h ⊢
  rw [Option.map_eq_some_iff] at h ⊢
  obtain ⟨a, h1, h2⟩ := h
  rw [Option.bind_eq_some_iff] at h1
  obtain ⟨m, h3, h4⟩ := h1
  exact ⟨a, by rw [ct_named h3]; exact ct_meth h4, h2⟩
theorem ct_codes {L : List Jvm.Cond} (h : ∀ c ∈ L, c.before start1.args0 start1.about = true) : ∀ c ∈ L.filter su_isCode, c.before start1.args0 ct_bad = true := by
  intro c hc
  obtain ⟨h1, h2⟩ := List.mem_filter.mp hc
  have h3 := h c h1
  cases c <;> first | (exact ct_code h3) | (cases h2)
end Words
end
section
section Words1
set_option maxRecDepth 16384 in
theorem ct_o_1_0 : ((tables_1_1.take 40)).all (fun c => su_isCode c || c.before start1.args0 ct_bad) = true := by decide +kernel
set_option maxRecDepth 16384 in
theorem ct_o_1_1 : (((tables_1_1.drop 40).take 40)).all (fun c => su_isCode c || c.before start1.args0 ct_bad) = true := by decide +kernel
set_option maxRecDepth 16384 in
theorem ct_o_1_2 : ((((tables_1_1.drop 40).drop 40).take 40)).all (fun c => su_isCode c || c.before start1.args0 ct_bad) = true := by decide +kernel
set_option maxRecDepth 16384 in
theorem ct_o_1_3 : (((((tables_1_1.drop 40).drop 40).drop 40).take 40)).all (fun c => su_isCode c || c.before start1.args0 ct_bad) = true := by decide +kernel
set_option maxRecDepth 16384 in
theorem ct_o_1_4 : ((((((tables_1_1.drop 40).drop 40).drop 40).drop 40).take 40)).all (fun c => su_isCode c || c.before start1.args0 ct_bad) = true := by decide +kernel
set_option maxRecDepth 16384 in
theorem ct_o_1_5 : ((((((tables_1_1.drop 40).drop 40).drop 40).drop 40).drop 40)).all (fun c => su_isCode c || c.before start1.args0 ct_bad) = true := by decide +kernel
theorem ct_w_1 : ∀ c ∈ tables_1_1, c.before start1.args0 ct_bad = true := fun c h => su_words (start1.su_all_split _ 40 tables_1_1 ct_o_1_0 (start1.su_all_split _ 40 (tables_1_1.drop 40) ct_o_1_1 (start1.su_all_split _ 40 ((tables_1_1.drop 40).drop 40) ct_o_1_2 (start1.su_all_split _ 40 (((tables_1_1.drop 40).drop 40).drop 40) ct_o_1_3 (start1.su_all_split _ 40 ((((tables_1_1.drop 40).drop 40).drop 40).drop 40) ct_o_1_4 ct_o_1_5))))) (ct_codes start1.words_1) c h
end Words1
end
section
section Words2
set_option maxRecDepth 16384 in
theorem ct_o_2_0 : ((tables_1_2.take 40)).all (fun c => su_isCode c || c.before start1.args0 ct_bad) = true := by decide +kernel
set_option maxRecDepth 16384 in
theorem ct_o_2_1 : (((tables_1_2.drop 40).take 40)).all (fun c => su_isCode c || c.before start1.args0 ct_bad) = true := by decide +kernel
set_option maxRecDepth 16384 in
theorem ct_o_2_2 : ((((tables_1_2.drop 40).drop 40).take 40)).all (fun c => su_isCode c || c.before start1.args0 ct_bad) = true := by decide +kernel
set_option maxRecDepth 16384 in
theorem ct_o_2_3 : (((((tables_1_2.drop 40).drop 40).drop 40).take 40)).all (fun c => su_isCode c || c.before start1.args0 ct_bad) = true := by decide +kernel
set_option maxRecDepth 16384 in
theorem ct_o_2_4 : ((((((tables_1_2.drop 40).drop 40).drop 40).drop 40).take 40)).all (fun c => su_isCode c || c.before start1.args0 ct_bad) = true := by decide +kernel
set_option maxRecDepth 16384 in
theorem ct_o_2_5 : ((((((tables_1_2.drop 40).drop 40).drop 40).drop 40).drop 40)).all (fun c => su_isCode c || c.before start1.args0 ct_bad) = true := by decide +kernel
theorem ct_w_2 : ∀ c ∈ tables_1_2, c.before start1.args0 ct_bad = true := fun c h => su_words (start1.su_all_split _ 40 tables_1_2 ct_o_2_0 (start1.su_all_split _ 40 (tables_1_2.drop 40) ct_o_2_1 (start1.su_all_split _ 40 ((tables_1_2.drop 40).drop 40) ct_o_2_2 (start1.su_all_split _ 40 (((tables_1_2.drop 40).drop 40).drop 40) ct_o_2_3 (start1.su_all_split _ 40 ((((tables_1_2.drop 40).drop 40).drop 40).drop 40) ct_o_2_4 ct_o_2_5))))) (ct_codes start1.words_2) c h
end Words2
end
section
section Words3
set_option maxRecDepth 16384 in
theorem ct_o_3_0 : ((tables_1_3.take 40)).all (fun c => su_isCode c || c.before start1.args0 ct_bad) = true := by decide +kernel
set_option maxRecDepth 16384 in
theorem ct_o_3_1 : (((tables_1_3.drop 40).take 40)).all (fun c => su_isCode c || c.before start1.args0 ct_bad) = true := by decide +kernel
set_option maxRecDepth 16384 in
theorem ct_o_3_2 : ((((tables_1_3.drop 40).drop 40).take 40)).all (fun c => su_isCode c || c.before start1.args0 ct_bad) = true := by decide +kernel
set_option maxRecDepth 16384 in
theorem ct_o_3_3 : (((((tables_1_3.drop 40).drop 40).drop 40).take 40)).all (fun c => su_isCode c || c.before start1.args0 ct_bad) = true := by decide +kernel
set_option maxRecDepth 16384 in
theorem ct_o_3_4 : ((((((tables_1_3.drop 40).drop 40).drop 40).drop 40).take 40)).all (fun c => su_isCode c || c.before start1.args0 ct_bad) = true := by decide +kernel
set_option maxRecDepth 16384 in
theorem ct_o_3_5 : ((((((tables_1_3.drop 40).drop 40).drop 40).drop 40).drop 40)).all (fun c => su_isCode c || c.before start1.args0 ct_bad) = true := by decide +kernel
theorem ct_w_3 : ∀ c ∈ tables_1_3, c.before start1.args0 ct_bad = true := fun c h => su_words (start1.su_all_split _ 40 tables_1_3 ct_o_3_0 (start1.su_all_split _ 40 (tables_1_3.drop 40) ct_o_3_1 (start1.su_all_split _ 40 ((tables_1_3.drop 40).drop 40) ct_o_3_2 (start1.su_all_split _ 40 (((tables_1_3.drop 40).drop 40).drop 40) ct_o_3_3 (start1.su_all_split _ 40 ((((tables_1_3.drop 40).drop 40).drop 40).drop 40) ct_o_3_4 ct_o_3_5))))) (ct_codes start1.words_3) c h
end Words3
end
section
section Words4
set_option maxRecDepth 16384 in
theorem ct_o_4_0 : ((tables_1_4.take 40)).all (fun c => su_isCode c || c.before start1.args0 ct_bad) = true := by decide +kernel
set_option maxRecDepth 16384 in
theorem ct_o_4_1 : (((tables_1_4.drop 40).take 40)).all (fun c => su_isCode c || c.before start1.args0 ct_bad) = true := by decide +kernel
set_option maxRecDepth 16384 in
theorem ct_o_4_2 : ((((tables_1_4.drop 40).drop 40).take 40)).all (fun c => su_isCode c || c.before start1.args0 ct_bad) = true := by decide +kernel
set_option maxRecDepth 16384 in
theorem ct_o_4_3 : (((((tables_1_4.drop 40).drop 40).drop 40).take 40)).all (fun c => su_isCode c || c.before start1.args0 ct_bad) = true := by decide +kernel
set_option maxRecDepth 16384 in
theorem ct_o_4_4 : ((((((tables_1_4.drop 40).drop 40).drop 40).drop 40).take 40)).all (fun c => su_isCode c || c.before start1.args0 ct_bad) = true := by decide +kernel
set_option maxRecDepth 16384 in
theorem ct_o_4_5 : ((((((tables_1_4.drop 40).drop 40).drop 40).drop 40).drop 40)).all (fun c => su_isCode c || c.before start1.args0 ct_bad) = true := by decide +kernel
theorem ct_w_4 : ∀ c ∈ tables_1_4, c.before start1.args0 ct_bad = true := fun c h => su_words (start1.su_all_split _ 40 tables_1_4 ct_o_4_0 (start1.su_all_split _ 40 (tables_1_4.drop 40) ct_o_4_1 (start1.su_all_split _ 40 ((tables_1_4.drop 40).drop 40) ct_o_4_2 (start1.su_all_split _ 40 (((tables_1_4.drop 40).drop 40).drop 40) ct_o_4_3 (start1.su_all_split _ 40 ((((tables_1_4.drop 40).drop 40).drop 40).drop 40) ct_o_4_4 ct_o_4_5))))) (ct_codes start1.words_4) c h
end Words4
end
section
section Words5
set_option maxRecDepth 16384 in
theorem ct_o_5_0 : ((tables_1_5.take 40)).all (fun c => su_isCode c || c.before start1.args0 ct_bad) = true := by decide +kernel
set_option maxRecDepth 16384 in
theorem ct_o_5_1 : (((tables_1_5.drop 40).take 40)).all (fun c => su_isCode c || c.before start1.args0 ct_bad) = true := by decide +kernel
set_option maxRecDepth 16384 in
theorem ct_o_5_2 : (((tables_1_5.drop 40).drop 40)).all (fun c => su_isCode c || c.before start1.args0 ct_bad) = true := by decide +kernel
theorem ct_w_5 : ∀ c ∈ tables_1_5, c.before start1.args0 ct_bad = true := fun c h => su_words (start1.su_all_split _ 40 tables_1_5 ct_o_5_0 (start1.su_all_split _ 40 (tables_1_5.drop 40) ct_o_5_1 ct_o_5_2)) (ct_codes start1.words_5) c h
end Words5
end
section
section Refuted
theorem ct_words : ∀ c ∈ (Jvm.Cond.code x code maxLocals ret :: tables_1), c.before start1.args0 ct_bad = true := by
  intro c hc
  simp only [tables_1, List.mem_cons, List.mem_append] at hc
  rcases hc with h | h | h | h | h | h
  · rw [h]; exact ct_code start1.word_code
  · exact ct_w_1 c h
  · exact ct_w_2 c h
  · exact ct_w_3 c h
  · exact ct_w_4 c h
  · exact ct_w_5 c h
set_option maxRecDepth 16384 in
/-- every premise of the printed statement holds at ct_bad -/
theorem ct_start : Jvm.D.AtStart classFile x code maxLocals ret World_1 tables_1 room_1 Calls_1 rest_1 Pre_1 launch0 start1.p0 start1.e0 ct_bad ⟨0, 0⟩ start1.args0 Lib.HandBits.below0 := by
  obtain ⟨hL, hW, ha, hl, hc, hk, -⟩ := start1.atStart
  have hroom : ct_bad.hasRoom start1.e0.platform room_1 = true := launch0.hasRoom_least _ room_1 (by decide +kernel) (by decide +kernel) (by decide +kernel) (by decide +kernel) (by decide +kernel) (by decide +kernel)
  have happ : (Jvm.D.headSpec (Jvm.Cond.code x code maxLocals ret :: tables_1) room_1).applies x start1.e0.platform ct_bad = true :=
    (Spec.applies_iff rfl).mpr ⟨rfl, rfl, rfl, by decide +kernel, by decide +kernel, by decide +kernel, hroom, atoms_intro ct_words⟩
  have hrest : rest_1_c.before start1.args0 ct_bad = true := by decide +kernel
  have hpre : (Jvm.Cond.and given_1 narrow_1).before start1.args0 ct_bad = true := by decide +kernel
  exact ⟨hL, hW, ha, hl, hc, hk, rfl, by decide +kernel, by decide +kernel, happ, trivial, hrest, hpre⟩
/-- THE CLAIM IS FALSE AS PRINTED: at this start every premise holds, and the law never comes back -/
theorem ct_false : ¬ Claimed_1_1 := by
  intro h
  obtain ⟨hL, hW, ha, hl, hc, hk, hf, hA, hH, happ, hcalls, hrest, hpre⟩ := ct_start
  obtain ⟨n, o, h1, h2, h3, h4⟩ := h launch0 rfl hL hW start1.p0 start1.e0 ha hc hk ct_bad ⟨0, 0⟩ start1.args0 Lib.HandBits.below0 hf hA hH happ ⟨hcalls, hrest, hpre⟩
  exact ct_in_not (ct_never 40 ct_bad ct_runs n) o h3
theorem ct_unprovable : ¬ (Claimed_1_1 ∧ Claimed_1_2) := fun h => ct_false h.1
end Refuted
end
section
section Falls
/-- a method 'clone' of two bytes: aload_0; athrow -/
def cz_thrower : Method := Lib.HandJ.method "clone" "()Ljava/lang/Object;" [] (some (.object "java/lang/Object")) 0x1 1 ⟨#[0x2a, 0xbf]⟩
/-- one more entry for the table: its kind is 'array of int', its only method is that one -/
def cz_cls : Class := { start1.cArr "Odd" 16 .int with methods := #[cz_thrower] }
/-- the printed start, with that entry at the table's end, borne by the cell of AT_FIRST -/
def cz_bad : State := { start1.about with
  vm := { start1.about.vm with classes := start1.about.vm.classes.push cz_cls }
  heap := start1.about.heap.modify 5 (fun k => { k with cls := 22 }) }
/-- the invoker's frame, as the printed start has it -/
def cz_low : Frame → Bool
  | .native g => decide (g.method = ⟨0, 0⟩) && decide (g.args = #[]) && decide (g.stage = 0) && decide (g.saved = #[]) && !g.awaiting && g.answer.isNone && g.locked.isNone && decide (g.words = 0)
  | _ => false
theorem cz_low_eq {f : Frame} (h : cz_low f = true) : [f] = Lib.HandBits.below0 := by
  unfold cz_low at h
  split at h
  · rename_i g
    simp only [Bool.and_eq_true, decide_eq_true_eq, Bool.not_eq_true', Option.isNone_iff_eq_none] at h
    obtain ⟨⟨⟨⟨⟨⟨⟨h1, h2⟩, h3⟩, h4⟩, h5⟩, h6⟩, h7⟩, h8⟩ := h
    cases g
    simp only at h1 h2 h3 h4 h5 h6 h7 h8
    subst h1 h2 h3 h4 h5 h6 h7 h8
    rfl
  · cases h
/-- what lies above the invoker's frame -/
def cz_above : List Frame → Option (List Frame)
  | [] => none
  | [f] => if cz_low f then some [] else none
  | f :: g :: r => (cz_above (g :: r)).map (f :: ·)
theorem cz_above_eq : ∀ {fs ab : List Frame}, cz_above fs = some ab → fs = ab ++ Lib.HandBits.below0
  | [], ab, h => by cases h
  | [f], ab, h => by
    unfold cz_above at h
    split at h
    · rename_i hf
      cases h
      exact cz_low_eq hf
    · cases h
  | f :: g :: r, ab, h => by
    unfold cz_above at h
    rw [Option.map_eq_some_iff] at h
    obtain ⟨a, h1, h2⟩ := h
    subst h2
    rw [cz_above_eq h1]
    rfl
/-- the call is under way -/
def cz_in (s : State) : Bool := match cz_above s.frames with
  | none => false
  | some [] => false
  | some [.throwing _] => false
  | some _ => true
theorem cz_in_within {s : State} (h : cz_in s = true) : Within s Lib.HandBits.below0 := by
  unfold cz_in at h
  split at h
  · cases h
  · cases h
  · cases h
  · rename_i ab h1 h2 he
    refine ⟨ab, cz_above_eq he, ?_, ?_⟩
    · intro hc; exact h1 hc
    · intro a hc; exact h2 a hc
/-- the call has ended by a throw -/
def cz_out (s : State) : Bool := match cz_above s.frames with
  | some [.throwing _] => true
  | _ => false
theorem cz_out_ended {s : State} (h : cz_out s = true) : ∃ a, Ended s Lib.HandBits.below0 (.threw a) := by
  unfold cz_out at h
  split at h
  · rename_i a he
    exact ⟨a, cz_above_eq he⟩
  · cases h
/-- the thread may step -/
def cz_may (s : State) : Bool := decide (s.status = Status.running) && decide (s.curStatus? = some ThreadStatus.runnable) && s.alone
/-- within n steps the call ends by a throw, and till there it is under way -/
def cz_ok (e : Env) : Nat → State → Bool
  | 0, _ => false
  | n + 1, s => cz_may s && (cz_out s || (cz_in s && cz_ok e n (stepThread start1.p0.tables e s).1))
theorem cz_step {e : Env} {s : State} (h : cz_may s = true) (k : Nat) : stepsAlone start1.p0.tables e (k + 1) s = stepsAlone start1.p0.tables e k (stepThread start1.p0.tables e s).1 := by
  unfold cz_may at h
  simp only [Bool.and_eq_true, decide_eq_true_eq] at h
  obtain ⟨⟨h1, h2⟩, h3⟩ := h
  show (match s.status, s.curStatus?, s.alone with
    | .running, some .runnable, true => stepsAlone start1.p0.tables e k (stepThread start1.p0.tables e s).1
    | _, _, _ => s) = _
  rw [h1, h2, h3]
theorem cz_ends {e : Env} : ∀ (m : Nat) (s : State), cz_ok e m s = true → ∃ (n : Nat) (a : Addr), (∀ k, k < n → Within (stepsAlone start1.p0.tables e k s) Lib.HandBits.below0) ∧ (stepsAlone start1.p0.tables e n s).status = Status.running ∧ Ended (stepsAlone start1.p0.tables e n s) Lib.HandBits.below0 (.threw a)
  | 0, s, h => by cases h
  | m + 1, s, h => by
    unfold cz_ok at h
    rw [Bool.and_eq_true, Bool.or_eq_true] at h
    obtain ⟨h1, h2⟩ := h
    have hr : s.status = Status.running := by
      unfold cz_may at h1
      simp only [Bool.and_eq_true, decide_eq_true_eq] at h1
      exact h1.1.1
    rcases h2 with h2 | h2
    · obtain ⟨a, ha⟩ := cz_out_ended h2
      exact ⟨0, a, fun k hk => absurd hk (Nat.not_lt_zero k), hr, ha⟩
    · rw [Bool.and_eq_true] at h2
      obtain ⟨h3, h4⟩ := h2
      obtain ⟨n, a, hw, hs, he⟩ := cz_ends m _ h4
      refine ⟨n + 1, a, ?_, ?_, ?_⟩
      · intro k hk
        cases k with
        | zero => exact cz_in_within h3
        | succ k => rw [cz_step h1 k]; exact hw k (Nat.lt_of_succ_lt_succ hk)
      · rw [cz_step h1 n]; exact hs
      · rw [cz_step h1 n]; exact he
set_option maxRecDepth 16384 in
/-- the run itself, by the kernel: the law, the constructor, AT_FIRST.clone(), a throw, and out of the law -/
theorem cz_runs : cz_ok start1.e0 80 cz_bad = true := by decide +kernel
end Falls
end
section
section Words
/-! what the table said of a name it says with the entry at its end too -/
theorem cz_found {q : String} {i : ClassId} (h : start1.about.vm.findClass q = some i) : cz_bad.vm.findClass q = some i := by
  unfold Vm.findClass at h ⊢
  show (start1.about.vm.classes.push cz_cls).findIdx? _ = some i
  rw [Array.findIdx?_push, h]
  rfl
theorem cz_entry {i : ClassId} {k : Class} (h : start1.about.vm.classes[i]? = some k) : cz_bad.vm.classes[i]? = some k := by
  show (start1.about.vm.classes.push cz_cls)[i]? = some k
  have hi : i < start1.about.vm.classes.size := (Array.getElem?_eq_some_iff.mp h).1
  rw [Array.getElem?_push_lt hi, ← h]
  simp
theorem cz_named {y : MethodName} {m : MethodId} (h : start1.about.methodNamed? y = some m) : cz_bad.methodNamed? y = some m := by
  unfold State.methodNamed? at h ⊢
  simp only [Option.bind_eq_bind, Option.bind_eq_some_iff] at h ⊢
  obtain ⟨a, h1, b, h2, h3⟩ := h
  exact ⟨a, cz_found h1, b, cz_entry h2, h3⟩
theorem cz_meth {m : MethodId} {y : Method} (h : start1.about.vm.method? m = some y) : cz_bad.vm.method? m = some y := by
  unfold Vm.method? at h ⊢
  simp only [Option.bind_eq_bind, Option.bind_eq_some_iff] at h ⊢
  obtain ⟨a, h1, h2⟩ := h
  exact ⟨a, cz_entry h1, h2⟩
theorem cz_code {y : MethodName} {bytes : ByteArray} {maxL : Nat} {ret : Option FieldType} (h : (Jvm.Cond.code y bytes maxL ret).before start1.args0 start1.about = true) : (Jvm.Cond.code y bytes maxL ret).before start1.args0 cz_bad = true := by
  rw [Cond.before_iff] at h ⊢
  simp only [Cond.value] at h ⊢
  rw [Option.map_eq_some_iff] at h ⊢
  obtain ⟨a, h1, h2⟩ := h
  rw [Option.bind_eq_some_iff] at h1
  obtain ⟨m, h3, h4⟩ := h1
  exact ⟨a, by rw [cz_named h3]; exact cz_meth h4, h2⟩
theorem cz_codes {L : List Jvm.Cond} (h : ∀ c ∈ L, c.before start1.args0 start1.about = true) : ∀ c ∈ L.filter su_isCode, c.before start1.args0 cz_bad = true := by
  intro c hc
  obtain ⟨h1, h2⟩ := List.mem_filter.mp hc
  have h3 := h c h1
  cases c <;> first | (exact cz_code h3) | (cases h2)
end Words
end
section
section Words1
set_option maxRecDepth 16384 in
theorem cz_o_1_0 : ((tables_1_1.take 40)).all (fun c => su_isCode c || c.before start1.args0 cz_bad) = true := by decide +kernel
set_option maxRecDepth 16384 in
theorem cz_o_1_1 : (((tables_1_1.drop 40).take 40)).all (fun c => su_isCode c || c.before start1.args0 cz_bad) = true := by decide +kernel
set_option maxRecDepth 16384 in
theorem cz_o_1_2 : ((((tables_1_1.drop 40).drop 40).take 40)).all (fun c => su_isCode c || c.before start1.args0 cz_bad) = true := by decide +kernel
set_option maxRecDepth 16384 in
theorem cz_o_1_3 : (((((tables_1_1.drop 40).drop 40).drop 40).take 40)).all (fun c => su_isCode c || c.before start1.args0 cz_bad) = true := by decide +kernel
set_option maxRecDepth 16384 in
theorem cz_o_1_4 : ((((((tables_1_1.drop 40).drop 40).drop 40).drop 40).take 40)).all (fun c => su_isCode c || c.before start1.args0 cz_bad) = true := by decide +kernel
set_option maxRecDepth 16384 in
theorem cz_o_1_5 : ((((((tables_1_1.drop 40).drop 40).drop 40).drop 40).drop 40)).all (fun c => su_isCode c || c.before start1.args0 cz_bad) = true := by decide +kernel
theorem cz_w_1 : ∀ c ∈ tables_1_1, c.before start1.args0 cz_bad = true := fun c h => su_words (start1.su_all_split _ 40 tables_1_1 cz_o_1_0 (start1.su_all_split _ 40 (tables_1_1.drop 40) cz_o_1_1 (start1.su_all_split _ 40 ((tables_1_1.drop 40).drop 40) cz_o_1_2 (start1.su_all_split _ 40 (((tables_1_1.drop 40).drop 40).drop 40) cz_o_1_3 (start1.su_all_split _ 40 ((((tables_1_1.drop 40).drop 40).drop 40).drop 40) cz_o_1_4 cz_o_1_5))))) (cz_codes start1.words_1) c h
end Words1
end
section
section Words2
set_option maxRecDepth 16384 in
theorem cz_o_2_0 : ((tables_1_2.take 40)).all (fun c => su_isCode c || c.before start1.args0 cz_bad) = true := by decide +kernel
set_option maxRecDepth 16384 in
theorem cz_o_2_1 : (((tables_1_2.drop 40).take 40)).all (fun c => su_isCode c || c.before start1.args0 cz_bad) = true := by decide +kernel
set_option maxRecDepth 16384 in
theorem cz_o_2_2 : ((((tables_1_2.drop 40).drop 40).take 40)).all (fun c => su_isCode c || c.before start1.args0 cz_bad) = true := by decide +kernel
set_option maxRecDepth 16384 in
theorem cz_o_2_3 : (((((tables_1_2.drop 40).drop 40).drop 40).take 40)).all (fun c => su_isCode c || c.before start1.args0 cz_bad) = true := by decide +kernel
set_option maxRecDepth 16384 in
theorem cz_o_2_4 : ((((((tables_1_2.drop 40).drop 40).drop 40).drop 40).take 40)).all (fun c => su_isCode c || c.before start1.args0 cz_bad) = true := by decide +kernel
set_option maxRecDepth 16384 in
theorem cz_o_2_5 : ((((((tables_1_2.drop 40).drop 40).drop 40).drop 40).drop 40)).all (fun c => su_isCode c || c.before start1.args0 cz_bad) = true := by decide +kernel
theorem cz_w_2 : ∀ c ∈ tables_1_2, c.before start1.args0 cz_bad = true := fun c h => su_words (start1.su_all_split _ 40 tables_1_2 cz_o_2_0 (start1.su_all_split _ 40 (tables_1_2.drop 40) cz_o_2_1 (start1.su_all_split _ 40 ((tables_1_2.drop 40).drop 40) cz_o_2_2 (start1.su_all_split _ 40 (((tables_1_2.drop 40).drop 40).drop 40) cz_o_2_3 (start1.su_all_split _ 40 ((((tables_1_2.drop 40).drop 40).drop 40).drop 40) cz_o_2_4 cz_o_2_5))))) (cz_codes start1.words_2) c h
end Words2
end
section
section Words3
set_option maxRecDepth 16384 in
theorem cz_o_3_0 : ((tables_1_3.take 40)).all (fun c => su_isCode c || c.before start1.args0 cz_bad) = true := by decide +kernel
set_option maxRecDepth 16384 in
theorem cz_o_3_1 : (((tables_1_3.drop 40).take 40)).all (fun c => su_isCode c || c.before start1.args0 cz_bad) = true := by decide +kernel
set_option maxRecDepth 16384 in
theorem cz_o_3_2 : ((((tables_1_3.drop 40).drop 40).take 40)).all (fun c => su_isCode c || c.before start1.args0 cz_bad) = true := by decide +kernel
set_option maxRecDepth 16384 in
theorem cz_o_3_3 : (((((tables_1_3.drop 40).drop 40).drop 40).take 40)).all (fun c => su_isCode c || c.before start1.args0 cz_bad) = true := by decide +kernel
set_option maxRecDepth 16384 in
theorem cz_o_3_4 : ((((((tables_1_3.drop 40).drop 40).drop 40).drop 40).take 40)).all (fun c => su_isCode c || c.before start1.args0 cz_bad) = true := by decide +kernel
set_option maxRecDepth 16384 in
theorem cz_o_3_5 : ((((((tables_1_3.drop 40).drop 40).drop 40).drop 40).drop 40)).all (fun c => su_isCode c || c.before start1.args0 cz_bad) = true := by decide +kernel
theorem cz_w_3 : ∀ c ∈ tables_1_3, c.before start1.args0 cz_bad = true := fun c h => su_words (start1.su_all_split _ 40 tables_1_3 cz_o_3_0 (start1.su_all_split _ 40 (tables_1_3.drop 40) cz_o_3_1 (start1.su_all_split _ 40 ((tables_1_3.drop 40).drop 40) cz_o_3_2 (start1.su_all_split _ 40 (((tables_1_3.drop 40).drop 40).drop 40) cz_o_3_3 (start1.su_all_split _ 40 ((((tables_1_3.drop 40).drop 40).drop 40).drop 40) cz_o_3_4 cz_o_3_5))))) (cz_codes start1.words_3) c h
end Words3
end
section
section Words4
set_option maxRecDepth 16384 in
theorem cz_o_4_0 : ((tables_1_4.take 40)).all (fun c => su_isCode c || c.before start1.args0 cz_bad) = true := by decide +kernel
set_option maxRecDepth 16384 in
theorem cz_o_4_1 : (((tables_1_4.drop 40).take 40)).all (fun c => su_isCode c || c.before start1.args0 cz_bad) = true := by decide +kernel
set_option maxRecDepth 16384 in
theorem cz_o_4_2 : ((((tables_1_4.drop 40).drop 40).take 40)).all (fun c => su_isCode c || c.before start1.args0 cz_bad) = true := by decide +kernel
set_option maxRecDepth 16384 in
theorem cz_o_4_3 : (((((tables_1_4.drop 40).drop 40).drop 40).take 40)).all (fun c => su_isCode c || c.before start1.args0 cz_bad) = true := by decide +kernel
set_option maxRecDepth 16384 in
theorem cz_o_4_4 : ((((((tables_1_4.drop 40).drop 40).drop 40).drop 40).take 40)).all (fun c => su_isCode c || c.before start1.args0 cz_bad) = true := by decide +kernel
set_option maxRecDepth 16384 in
theorem cz_o_4_5 : ((((((tables_1_4.drop 40).drop 40).drop 40).drop 40).drop 40)).all (fun c => su_isCode c || c.before start1.args0 cz_bad) = true := by decide +kernel
theorem cz_w_4 : ∀ c ∈ tables_1_4, c.before start1.args0 cz_bad = true := fun c h => su_words (start1.su_all_split _ 40 tables_1_4 cz_o_4_0 (start1.su_all_split _ 40 (tables_1_4.drop 40) cz_o_4_1 (start1.su_all_split _ 40 ((tables_1_4.drop 40).drop 40) cz_o_4_2 (start1.su_all_split _ 40 (((tables_1_4.drop 40).drop 40).drop 40) cz_o_4_3 (start1.su_all_split _ 40 ((((tables_1_4.drop 40).drop 40).drop 40).drop 40) cz_o_4_4 cz_o_4_5))))) (cz_codes start1.words_4) c h
end Words4
end
section
section Words5
set_option maxRecDepth 16384 in
theorem cz_o_5_0 : ((tables_1_5.take 40)).all (fun c => su_isCode c || c.before start1.args0 cz_bad) = true := by decide +kernel
set_option maxRecDepth 16384 in
theorem cz_o_5_1 : (((tables_1_5.drop 40).take 40)).all (fun c => su_isCode c || c.before start1.args0 cz_bad) = true := by decide +kernel
set_option maxRecDepth 16384 in
theorem cz_o_5_2 : (((tables_1_5.drop 40).drop 40)).all (fun c => su_isCode c || c.before start1.args0 cz_bad) = true := by decide +kernel
theorem cz_w_5 : ∀ c ∈ tables_1_5, c.before start1.args0 cz_bad = true := fun c h => su_words (start1.su_all_split _ 40 tables_1_5 cz_o_5_0 (start1.su_all_split _ 40 (tables_1_5.drop 40) cz_o_5_1 cz_o_5_2)) (cz_codes start1.words_5) c h
end Words5
end
section
section Refuted
theorem cz_words : ∀ c ∈ (Jvm.Cond.code x code maxLocals ret :: tables_1), c.before start1.args0 cz_bad = true := by
  intro c hc
  simp only [tables_1, List.mem_cons, List.mem_append] at hc
  rcases hc with h | h | h | h | h | h
  · rw [h]; exact cz_code start1.word_code
  · exact cz_w_1 c h
  · exact cz_w_2 c h
  · exact cz_w_3 c h
  · exact cz_w_4 c h
  · exact cz_w_5 c h
set_option maxRecDepth 16384 in
/-- every premise of the printed statement holds at cz_bad -/
theorem cz_start : Jvm.D.AtStart classFile x code maxLocals ret World_1 tables_1 room_1 Calls_1 rest_1 Pre_1 launch0 start1.p0 start1.e0 cz_bad ⟨0, 0⟩ start1.args0 Lib.HandBits.below0 := by
  obtain ⟨hL, hW, ha, hl, hc, hk, -⟩ := start1.atStart
  have hroom : cz_bad.hasRoom start1.e0.platform room_1 = true := launch0.hasRoom_least _ room_1 (by decide +kernel) (by decide +kernel) (by decide +kernel) (by decide +kernel) (by decide +kernel) (by decide +kernel)
  have happ : (Jvm.D.headSpec (Jvm.Cond.code x code maxLocals ret :: tables_1) room_1).applies x start1.e0.platform cz_bad = true :=
    (Spec.applies_iff rfl).mpr ⟨rfl, rfl, rfl, by decide +kernel, by decide +kernel, by decide +kernel, hroom, atoms_intro cz_words⟩
  have hrest : rest_1_c.before start1.args0 cz_bad = true := by decide +kernel
  have hpre : (Jvm.Cond.and given_1 narrow_1).before start1.args0 cz_bad = true := by decide +kernel
  exact ⟨hL, hW, ha, hl, hc, hk, rfl, by decide +kernel, by decide +kernel, happ, trivial, hrest, hpre⟩
/-- THE PRINTED STATEMENT'S OWN REFUTED FORM: every premise holds at this start, the call ends, and not as it says -/
theorem cz_falls_1 : RefutedClaimed_1_1 := by
  obtain ⟨n, a, hw, hs, he⟩ := cz_ends 80 cz_bad cz_runs
  refine ⟨launch0, start1.p0, start1.e0, cz_bad, ⟨0, 0⟩, start1.args0, Lib.HandBits.below0, rfl, cz_start, n, .threw a, hw, hs, he, ?_⟩
  rintro ⟨-, ⟨v, hv⟩, -⟩
  cases hv
theorem cz_falls_2 : RefutedClaimed_1_2 := by
  obtain ⟨n, a, hw, hs, he⟩ := cz_ends 80 cz_bad cz_runs
  refine ⟨launch0, start1.p0, start1.e0, cz_bad, ⟨0, 0⟩, start1.args0, Lib.HandBits.below0, rfl, cz_start, n, .threw a, hw, hs, he, ?_⟩
  rintro ⟨-, ⟨v, hv⟩, -⟩
  cases hv
/-- what falls so is not so: the machine runs one way -/
theorem cz_one {n n' : Nat} {a : Addr} {o : Outcome} (hw : ∀ k, k < n → Within (stepsAlone start1.p0.tables start1.e0 k cz_bad) Lib.HandBits.below0) (he : Ended (stepsAlone start1.p0.tables start1.e0 n cz_bad) Lib.HandBits.below0 (.threw a))
    (hw' : ∀ k, k < n' → Within (stepsAlone start1.p0.tables start1.e0 k cz_bad) Lib.HandBits.below0) (he' : Ended (stepsAlone start1.p0.tables start1.e0 n' cz_bad) Lib.HandBits.below0 o) : o = .threw a := by
  have hn : n = n' := by
    rcases Nat.lt_trichotomy n n' with h | h | h
    · exact absurd (hw' n h) he.not_within
    · exact h
    · exact absurd (hw n' h) he'.not_within
  subst hn
  exact he'.outcome_unique he
theorem cz_not_1 : ¬ Claimed_1_1 := by
  intro h
  obtain ⟨hL, hW, ha, hl, hc, hk, hf, hA, hH, happ, hcalls, hrest, hpre⟩ := cz_start
  obtain ⟨n', o, h1, h2, h3, -, ⟨v, hv⟩, -⟩ := h launch0 rfl hL hW start1.p0 start1.e0 ha hc hk cz_bad ⟨0, 0⟩ start1.args0 Lib.HandBits.below0 hf hA hH happ ⟨hcalls, hrest, hpre⟩
  obtain ⟨n, a, hw, hs, he⟩ := cz_ends 80 cz_bad cz_runs
  rw [cz_one hw he h1 h3] at hv
  cases hv
theorem cz_not_2 : ¬ Claimed_1_2 := by
  intro h
  obtain ⟨hL, hW, ha, hl, hc, hk, hf, hA, hH, happ, hcalls, hrest, hpre⟩ := cz_start
  obtain ⟨n', o, h1, h2, h3, -, ⟨v, hv⟩, -⟩ := h launch0 rfl hL hW start1.p0 start1.e0 ha hc hk cz_bad ⟨0, 0⟩ start1.args0 Lib.HandBits.below0 hf hA hH happ ⟨hcalls, hrest, hpre⟩
  obtain ⟨n, a, hw, hs, he⟩ := cz_ends 80 cz_bad cz_runs
  rw [cz_one hw he h1 h3] at hv
  cases hv
end Refuted
end
