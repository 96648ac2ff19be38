/-! evidence for REPORT.md, STATEMENT (p22): the law's own method has an exception table (it catches); the printed premises ask for one without: no launch meets them. This proves nothing of the program. -/
theorem p22_no_code : classFile.hasCode x code maxLocals ret = false := by decide +kernel
theorem p22_head (c : Cond) (ts : List Cond) (y : MethodName × ByteArray × Nat × Option FieldType) (h : y ∈ c.codes) : y ∈ (allAtoms (c :: ts)).codes := by
  cases ts with
  | nil => first | exact h | (simp [allAtoms, Cond.codes]; exact h)
  | cons d ts => first | exact List.mem_append_left _ h | (simp [allAtoms, Cond.codes]; exact Or.inl h)
theorem p22_gen (l : Launch) (f : ClassFile.Facts.File) (y : MethodName) (cd : ByteArray) (n : Nat) (r : Option FieldType) (ts : List Cond) (rm : Room) (h : FromLaunch l (headSpec (Cond.code y cd n r :: ts) rm)) (e : l.file? y.cls = some f) : f.hasCode y cd n r = true := by
  have h1 := h.1 (y, cd, n, r) (List.mem_append_left _ (p22_head (Cond.code y cd n r) ts _ List.mem_cons_self))
  have h2 : ((l.file? y.cls).any fun f => f.hasCode y cd n r) = true := h1
  rw [e] at h2
  exact h2
theorem p22_no_lists (l : Launch) : ¬ Lists l classFile x code maxLocals ret tables_1 room_1 := by
  intro h
  have h1 := p22_gen l classFile x code maxLocals ret tables_1 room_1 h.2.2.1 h.2.1
  rw [p22_no_code] at h1
  cases h1
theorem p22_no_start : ¬ Meetable classFile x code maxLocals ret World_1 tables_1 room_1 Calls_1 rest_1 Pre_1 := by
  rintro ⟨l, p, e, s, m, args, below, h⟩
  exact p22_no_lists l h.1
/-- every other code word of the first 40, the ones behind the entry's, is the launch's own: the entry's alone is wrong -/
theorem p22_rest_ok : List.all (List.drop 1 (List.take 40 (headSpec (Cond.code x code maxLocals ret :: tables_1) room_1).pre.codes)) (fun y => (launch0.file? y.1.cls).any fun f => f.hasCode y.1 y.2.1 y.2.2.1 y.2.2.2) = true := by decide +kernel
theorem p22_not_pinned : ¬ PinnedClaimed := by
  intro h
  have h1 : classFile.hasCode x code maxLocals ret = true := h
  rw [p22_no_code] at h1
  cases h1
theorem p22_no_lists_1 : ¬ ListsClaimed_1 := p22_no_lists launch0
theorem p22_no_witness : ¬ WitnessClaimed_1 := by
  rintro ⟨p, e, s, m, args, below, h⟩
  exact p22_no_lists launch0 h.1
