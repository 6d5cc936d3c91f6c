section Contrast
/-! The other side of cx_false: at the printed start itself (AT_FIRST's cell is of the class found under "[I" there) the same call of clone comes back, with a new array of the same nine numbers, and the constructor goes on behind its checkcast. No more than that is said here: not that the law ends. -/
/-- the constructor of NotesBelow stands on top, at the putfield behind AT_FIRST.clone() and its checkcast, and what lies on its stack is a cell with AT_FIRST's nine numbers that the start did not have -/
def cy_back (s : State) : Bool := match s.frames with
  | .java f :: _ => decide (f.method = ⟨2, 0⟩) && decide (f.pc = 25) && (match f.stack with
    | .ref a :: _ => decide (start1.about.heap.size ≤ a) && (match s.heap[a]? with
      | some k => decide (k.slots = #[.int 12, .int 1, .int 2, .int 2, .int 20, .int 10, .int 15, .int 8, .int 1])
      | none => false)
    | _ => false)
  | _ => false
/-- within n steps it comes to that -/
def cy_ok (e : Env) : Nat → State → Bool
  | 0, s => cy_back s
  | n + 1, s => cy_back s || cy_ok e n (stepThread start1.p0.tables e s).1
set_option maxRecDepth 16384 in
theorem cy_runs : cy_ok start1.e0 60 start1.about = true := by decide +kernel
set_option maxRecDepth 16384 in
/-- the same question at the start that refutes: not within 60 steps (and never, by cx_never) -/
theorem cy_not : cy_ok start1.e0 60 cx_bad = false := by decide +kernel
/-! the word that is wanting in narrow_1: the printed start meets it, the start that refutes does not -/
theorem cy_word : (Jvm.Cond.exactly (Jvm.Term.static "NotesBelow" "AT_FIRST" "[I") "[I").before start1.args0 start1.about = true := by decide +kernel
theorem cy_word_not : (Jvm.Cond.exactly (Jvm.Term.static "NotesBelow" "AT_FIRST" "[I") "[I").before start1.args0 cx_bad = false := by decide +kernel
end Contrast
