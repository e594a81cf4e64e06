/-! a word of the library on arrays of arrays: it stands first, so that the rows are read over the whole library from the beginning -/
theorem ao_spec {s : State} {t : FieldType} (h : (Cond.arrayOver (.array t)).before #[] s = true) : ∃ (comp c : ClassId) (k : Class), s.vm.findClass (FieldType.array t).toString = some comp ∧ s.vm.classes[c]? = some k ∧ k.kind = .array comp (.array t) ∧ s.vm.findClass ("[" ++ (FieldType.array t).toString) = some c :=
  Cond.arrayOver_specA h
