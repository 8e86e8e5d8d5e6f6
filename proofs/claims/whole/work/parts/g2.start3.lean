theorem kZ_ok {xs : Nat → Int32} {L : Nat} (hL : L ≤ 3072) : am_oks (fun k => (xs k).toInt, L) (kZ_ xs L) := by
  refine ⟨fun a k => ?_, fun a k => ?_, fun k => am_rI _, by show L < 2147483648; omega, rfl⟩
  · show am_r32 (s0_i a k)
    have h : s0_i a k = 0 ∨ s0_i a k = 40 ∨ s0_i a k = -1 ∨ s0_i a k = 102 := by
      unfold s0_i
      split
      all_goals dsimp only
      all_goals repeat' split
      all_goals first | exact Or.inl rfl | exact Or.inr (Or.inl rfl) | exact Or.inr (Or.inr (Or.inl rfl)) | exact Or.inr (Or.inr (Or.inr rfl))
    rcases h with h | h | h | h <;> rw [h] <;> exact ⟨by omega, by omega⟩
  · show am_r64 (s0_l a k)
    by_cases h : a = 67
    · subst h
      exact am_rJ _
    · have e : s0_l a k = 0 := by
        unfold s0_l
        split
        · exact absurd rfl h
        · rfl
      rw [e]
      exact ⟨by omega, by omega⟩

theorem kZ_nP : nP_ s0_i = 0 := rfl
theorem kZ_nO : nO_ s0_i = 0 := rfl
theorem kZ_nR : nR_ s0_i = 0 := rfl
theorem kZ_nF : nF_ s0_i = 0 := rfl
theorem kZ_wt : ∀ i, i < 21 → (wF_ i).toInt = n5_ (wc_ i : Int) := by decide +kernel
theorem kZ_tv : TV_ s0_i := by
  refine ⟨⟨by decide, by decide⟩, ⟨by decide, by decide⟩, ⟨by decide, by decide⟩, ⟨by decide, by decide⟩, ⟨by decide, by decide⟩, fun o h => ?_, fun q o h => ?_, fun p h => ?_, ?_⟩
  · rw [kZ_nO] at h; omega
  · rw [kZ_nR] at h; omega
  · rw [kZ_nP] at h; omega
  · unfold FV_
    refine ⟨⟨by decide, by decide⟩, Or.inl rfl, ⟨fun h => absurd h (by decide), fun h => absurd h (by decide)⟩, fun k h => ?_⟩
    rw [kZ_nF] at h; omega
theorem kZ_rw {x v : Nat → Int} (h : x 48 = v 49) : RW_x s0_i v x := by
  refine ⟨h, fun p h => ?_, fun p h => ?_, fun p h => ?_, fun p h => ?_, fun p s h => ?_⟩
  all_goals (rw [kZ_nP] at h; omega)
theorem kZ_gr : GR_ s0_i 100 (fun _ => 0) := by
  refine ⟨⟨⟨by decide, by decide⟩, ⟨by decide, by decide⟩, fun p h => ?_⟩, by decide, fun p h => ?_, ?_⟩
  · rw [kZ_nP] at h; omega
  · rw [kZ_nP] at h; omega
  · rw [kZ_nP]; rfl
theorem kZ_xt {xs : Nat → Int32} {L : Nat} : XT_ 34 s0_i (kZ_ xs L) := by
  unfold XT_
  refine ⟨Or.inr rfl, ?_⟩
  repeat' apply And.intro
  all_goals first
    | rfl
    | (intro o h; rw [kZ_nO] at h; omega)
    | (intro o h; rw [kZ_nP] at h; omega)
    | (intro o h; rw [kZ_nF] at h; omega)
    | (intro r o h; rw [kZ_nR] at h; omega)
    | skip
theorem kZ_g1 {xs : Nat → Int32} {L : Nat} : G1_ s0_i 34 (kZ_ xs L) := by
  refine ⟨Or.inr rfl, ?_, kZ_tv, kZ_xt, rfl, rfl⟩
  unfold TM_
  repeat' apply And.intro
  all_goals rfl
theorem kZ_g2 {xs : Nat → Int32} {L : Nat} : G2_ s0_i 100 0 0 (fun _ _ => 0) (kZ_ xs L) := by
  refine ⟨kZ_rw rfl, kZ_gr, ⟨rfl, rfl, by decide, fun i j h => absurd h (Nat.not_lt_zero i), fun i j h => absurd h (Nat.not_lt_zero i), fun j _ => rfl⟩, ⟨rfl, rfl, by decide, 0, by decide, rfl, fun i hi => ?_⟩, fun i _ => kZ_gr⟩
  obtain rfl : i = 0 := by omega
  exact kZ_rw rfl
theorem kZ_g3 {xs : Nat → Int32} {L : Nat} : G3_ s0_i 100 0 (kZ_ xs L) := by
  refine ⟨fun q _ => Or.inl rfl, ⟨rfl, by decide, fun b _ h => ?_⟩, fun q _ => ⟨⟨fun h => ?_, fun h => ?_⟩, fun h => ?_⟩⟩
  · rw [Nat.zero_testBit] at h; cases h
  · rw [Nat.zero_testBit] at h; cases h
  · exact absurd (show (0 : Int) = 1 from h) (by decide)
  · exact absurd (show (0 : Int) = 1 from h) (by decide)
theorem kZ_g4 {xs : Nat → Int32} {L : Nat} : G4_ (fun _ _ => 0) 0 (kZ_ xs L) := by
  refine ⟨⟨rfl, by decide, ⟨rfl, rfl, rfl, rfl, rfl, rfl⟩, fun j h => absurd h (Nat.not_lt_zero j)⟩, ⟨rfl, by decide, ?_, ?_, ?_, ?_, ?_, ?_, ?_, ?_, ?_⟩⟩
  all_goals exact fun j h => absurd h (Nat.not_lt_zero j)
theorem kZ_cp {xs : Nat → Int32} {L : Nat} : CP_ 100 (kZ_ xs L) :=
  ⟨s0_i, 34, 0, 0, fun _ _ => 0, 0, fun _ _ => 0, 0, kZ_g1, kZ_g2, kZ_g3, kZ_g4, ⟨0, by decide, rfl, rfl⟩, ⟨0, by decide, rfl, rfl, fun k h => absurd h (Nat.not_lt_zero k)⟩, ⟨0, by decide, fun k h => absurd h (Nat.not_lt_zero k), rfl, rfl⟩, ⟨rfl, rfl⟩, rfl, kZ_wt⟩
