theorem w0_world {cT : Nat → ClassId} {a8 a9 : Nat → Nat} {b t1 k1 v1 : Nat} {xs : Nat → Int32} {L : Nat} {D : va_G} {H : Heap} (hP : va_P D am_cl (kW_8 cT a8 ++ kW_9 cT a9) H) : va_P D am_cl (am_world (ad0_ a8 a9 b t1 k1 v1) cT (kZ_ xs L)) H := by
  intro k q hk
  have hl : k < am_NC := by rw [← am_world_len (ad0_ a8 a9 b t1 k1 v1) cT (kZ_ xs L)]; exact (List.getElem?_eq_some_iff.mp hk).1
  rw [am_world_at hl] at hk
  cases hk
  obtain ⟨e, h1, h2⟩ := w0_A178 (cT := cT) (a8 := a8) (a9 := a9) (b := b) (t1 := t1) (k1 := k1) (v1 := v1) (xs := xs) (L := L) k hl
  exact h2 D H (hP _ _ h1)
def pr0_ (k : Nat) : Nat := if k < 34 then k else if k < 36 then k + 32 else if k < 68 then k - 2 else k
theorem pr0_pl : ∀ i, i < 178 → pr0_ (pl0_ i) = i := by decide +kernel
theorem w0_inj {cT : Nat → ClassId} {a8 a9 : Nat → Nat} {b t1 k1 v1 : Nat} {xs : Nat → Int32} {L : Nat} {A : Nat → Prop} (hD : va_D A (kW_8 cT a8 ++ kW_9 cT a9)) : ∀ i j, i < am_NC → j < am_NC → (ad0_ a8 a9 b t1 k1 v1) i = (ad0_ a8 a9 b t1 k1 v1) j → i = j := by
  intro i j hi hj he
  obtain ⟨e1, h1, -⟩ := w0_A178 (cT := cT) (a8 := a8) (a9 := a9) (b := b) (t1 := t1) (k1 := k1) (v1 := v1) (xs := fun _ => 0) (L := 0) i hi
  obtain ⟨e2, h2, -⟩ := w0_A178 (cT := cT) (a8 := a8) (a9 := a9) (b := b) (t1 := t1) (k1 := k1) (v1 := v1) (xs := fun _ => 0) (L := 0) j hj
  have h3 := hD.1 _ _ _ _ h1 h2 he
  have h4 := congrArg pr0_ h3
  rw [pr0_pl i hi, pr0_pl j hj] at h4
  exact h4
theorem w0_mem {cT : Nat → ClassId} {a8 a9 : Nat → Nat} {b t1 k1 v1 : Nat} {xs : Nat → Int32} {L : Nat} {A : Nat → Prop} (hD : va_D A (kW_8 cT a8 ++ kW_9 cT a9)) {q : Nat} (hq : am_A (ad0_ a8 a9 b t1 k1 v1) q) : A q := by
  obtain ⟨i, hi, rfl⟩ := hq
  obtain ⟨e1, h1, -⟩ := w0_A178 (cT := cT) (a8 := a8) (a9 := a9) (b := b) (t1 := t1) (k1 := k1) (v1 := v1) (xs := fun _ => 0) (L := 0) i hi
  exact hD.2 _ _ h1
