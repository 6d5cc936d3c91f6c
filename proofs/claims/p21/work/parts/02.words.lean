section Words
/-! what the table said of a name it says with the entry at its end too -/
theorem ct_found {q : String} {i : ClassId} (h : start1.about.vm.findClass q = some i) : ct_bad.vm.findClass q = some i := by
  unfold Vm.findClass at h ⊢
  show (start1.about.vm.classes.push ct_cls).findIdx? _ = some i
  rw [Array.findIdx?_push, h]
  rfl
theorem ct_entry {i : ClassId} {k : Class} (h : start1.about.vm.classes[i]? = some k) : ct_bad.vm.classes[i]? = some k := by
  show (start1.about.vm.classes.push ct_cls)[i]? = some k
  have hi : i < start1.about.vm.classes.size := (Array.getElem?_eq_some_iff.mp h).1
  rw [Array.getElem?_push_lt hi, ← h]
  simp
theorem ct_named {y : MethodName} {m : MethodId} (h : start1.about.methodNamed? y = some m) : ct_bad.methodNamed? y = some m := by
  unfold State.methodNamed? at h ⊢
  simp only [Option.bind_eq_bind, Option.bind_eq_some_iff] at h ⊢
  obtain ⟨a, h1, b, h2, h3⟩ := h
  exact ⟨a, ct_found h1, b, ct_entry h2, h3⟩
theorem ct_meth {m : MethodId} {y : Method} (h : start1.about.vm.method? m = some y) : ct_bad.vm.method? m = some y := by
  unfold Vm.method? at h ⊢
  simp only [Option.bind_eq_bind, Option.bind_eq_some_iff] at h ⊢
  obtain ⟨a, h1, h2⟩ := h
  exact ⟨a, ct_entry h1, h2⟩
theorem ct_code {y : MethodName} {bytes : ByteArray} {maxL : Nat} {ret : Option FieldType} (h : (Jvm.Cond.code y bytes maxL ret).before start1.args0 start1.about = true) : (Jvm.Cond.code y bytes maxL ret).before start1.args0 ct_bad = true := by
  rw [Cond.before_iff] at h ⊢
  simp only [Cond.value] at h ⊢
  rw [Option.map_eq_some_iff] at h ⊢
  obtain ⟨a, h1, h2⟩ := h
  rw [Option.bind_eq_some_iff] at h1
  obtain ⟨m, h3, h4⟩ := h1
  exact ⟨a, by rw [ct_named h3]; exact ct_meth h4, h2⟩
theorem ct_codes {L : List Jvm.Cond} (h : ∀ c ∈ L, c.before start1.args0 start1.about = true) : ∀ c ∈ L.filter su_isCode, c.before start1.args0 ct_bad = true := by
  intro c hc
  obtain ⟨h1, h2⟩ := List.mem_filter.mp hc
  have h3 := h c h1
  cases c <;> first | (exact ct_code h3) | (cases h2)
end Words
