/-! what the law's entry gives: classes, array classes, nest links -/
theorem ws_arr {s : State} {A : Array Value} {ty : FieldType} (h : (Cond.arrayClass ty).before A s = true) : ∃ c : ClassId, ArrOfT s c ty ∧ s.vm.findClass ("[" ++ ty.toString) = some c := by
  obtain ⟨c, k, comp, h1, h2, h3⟩ := Cond.arrayClass_spec (args := A) (first := s) (o := none) (s := s) (idx := []) h
  exact ⟨c, fun n z => ⟨(fun q hq => by cases hq), k, h2, comp, h3⟩, h1⟩
theorem ws_aa {s : State} {A : Array Value} {ty : FieldType} (h : (Cond.arrayOver (.array ty)).before A s = true) : ∃ c : ClassId, ArrOfT s c (.array ty) ∧ s.vm.findClass ("[" ++ (FieldType.array ty).toString) = some c := by
  obtain ⟨c, comp, k, h4, h1, h2, h3⟩ := mr_over (args := A) (first := s) (o := none) (s := s) (idx := []) h
  exact ⟨c, fun n z => ⟨(fun q hq => by cases hq), k, h2, comp, h3⟩, h4⟩
theorem tt_1 {w : Jvm.Cond} {n : Nat} (h : am_nth tables_1_1 n = some w) : w ∈ lw_tbl := List.mem_append_right _ (show w ∈ tables_1 from (List.mem_append_left _ (am_nth_mem h)))
theorem tt_2 {w : Jvm.Cond} {n : Nat} (h : am_nth tables_1_2 n = some w) : w ∈ lw_tbl := List.mem_append_right _ (show w ∈ tables_1 from (List.mem_append_right _ (List.mem_append_left _ (am_nth_mem h))))
theorem tt_3 {w : Jvm.Cond} {n : Nat} (h : am_nth tables_1_3 n = some w) : w ∈ lw_tbl := List.mem_append_right _ (show w ∈ tables_1 from (List.mem_append_right _ (List.mem_append_right _ (List.mem_append_left _ (am_nth_mem h)))))
