section Words
/-! what the table said of a name it says with the entry at its end too -/
theorem cz_found {q : String} {i : ClassId} (h : start1.about.vm.findClass q = some i) : cz_bad.vm.findClass q = some i := by
  unfold Vm.findClass at h ⊢
  show (start1.about.vm.classes.push cz_cls).findIdx? _ = some i
  rw [Array.findIdx?_push, h]
  rfl
theorem cz_entry {i : ClassId} {k : Class} (h : start1.about.vm.classes[i]? = some k) : cz_bad.vm.classes[i]? = some k := by
  show (start1.about.vm.classes.push cz_cls)[i]? = some k
  have hi : i < start1.about.vm.classes.size := (Array.getElem?_eq_some_iff.mp h).1
  rw [Array.getElem?_push_lt hi, ← h]
  simp
theorem cz_named {y : MethodName} {m : MethodId} (h : start1.about.methodNamed? y = some m) : cz_bad.methodNamed? y = some m := by
  unfold State.methodNamed? at h ⊢
  simp only [Option.bind_eq_bind, Option.bind_eq_some_iff] at h ⊢
  obtain ⟨a, h1, b, h2, h3⟩ := h
  exact ⟨a, cz_found h1, b, cz_entry h2, h3⟩
theorem cz_meth {m : MethodId} {y : Method} (h : start1.about.vm.method? m = some y) : cz_bad.vm.method? m = some y := by
  unfold Vm.method? at h ⊢
  simp only [Option.bind_eq_bind, Option.bind_eq_some_iff] at h ⊢
  obtain ⟨a, h1, h2⟩ := h
  exact ⟨a, cz_entry h1, h2⟩
theorem cz_code {y : MethodName} {bytes : ByteArray} {maxL : Nat} {ret : Option FieldType} (h : (Jvm.Cond.code y bytes maxL ret).before start1.args0 start1.about = true) : (Jvm.Cond.code y bytes maxL ret).before start1.args0 cz_bad = true := by
  rw [Cond.before_iff] at h ⊢
  simp only [Cond.value] at h ⊢
  rw [Option.map_eq_some_iff] at h ⊢
  obtain ⟨a, h1, h2⟩ := h
  rw [Option.bind_eq_some_iff] at h1
  obtain ⟨m, h3, h4⟩ := h1
  exact ⟨a, by rw [cz_named h3]; exact cz_meth h4, h2⟩
theorem cz_codes {L : List Jvm.Cond} (h : ∀ c ∈ L, c.before start1.args0 start1.about = true) : ∀ c ∈ L.filter su_isCode, c.before start1.args0 cz_bad = true := by
  intro c hc
  obtain ⟨h1, h2⟩ := List.mem_filter.mp hc
  have h3 := h c h1
  cases c <;> first | (exact cz_code h3) | (cases h2)
end Words
