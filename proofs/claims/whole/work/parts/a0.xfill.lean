theorem dg_0 (y i : Nat) : dg_ y i 0 = i % (y + 1) := by unfold dg_; simp
theorem dg_1 (y i : Nat) : dg_ y i 1 = i / (y + 1) % (y + 1) := by unfold dg_; simp
theorem dg_2 (y i : Nat) : dg_ y i 2 = i / (y + 1) / (y + 1) % (y + 1) := by unfold dg_; rw [Nat.div_div_eq_div_mul, Nat.pow_two]
def FI_ (n y i : Nat) (σ : am_S) (Q : Option am_V → am_S → Prop) : Prop := ∀ σ', fr_ [121] σ σ' → (∀ S, cf_ n y i = some S → ∀ k, k < n → σ'.1 121 k = (S.getD k 0 : Int)) → Q (some (am_I (if (cf_ n y i).isSome then 1 else 0))) σ'

theorem x_fills1 {d : Nat} (hd : 1 ≤ d) {σ : am_S} {y i : Nat} (h5 : σ.1 119 5 = (y : Int)) (hy : y ≤ 12) (hi : i < 10000) {Q : Option am_V → am_S → Prop} (hQ : FI_ 1 y i σ Q) : am_Ev d 38 [am_R 119, am_I ((i : Nat) : Int), am_I ((1 : Nat) : Int)] σ Q := by
  obtain ⟨d, rfl⟩ : ∃ e, d = e + 1 := ⟨d - 1, by omega⟩
  have m0 := Nat.mod_lt i (show 0 < y + 1 by omega)
  have q0 := Nat.div_le_self i (y + 1)
  have m1 := Nat.mod_lt (i / (y + 1)) (show 0 < y + 1 by omega)
  have q1 := Nat.div_le_self (i / (y + 1)) (y + 1)
  have m2 := Nat.mod_lt (i / (y + 1) / (y + 1)) (show 0 < y + 1 by omega)
  have q2 := Nat.div_le_self (i / (y + 1) / (y + 1)) (y + 1)
  have d0 := dg_0 y i
  have d1 := dg_1 y i
  have d2 := dg_2 y i
  refine ev_in (m := 38) (c := k_X3_fillsYears) (L := [some (am_R 119), some (am_I ((i : Nat) : Int)), some (am_I 1), none, none, none]) rfl rfl rfl rfl rfl rfl ?_
  refine ax_load (q := 1) rfl rfl rfl rfl rfl ?_
  refine ax_store (q := 2) (L' := [some (am_R 119), some (am_I ((i : Nat) : Int)), some (am_I 1), some (am_I ((i : Nat) : Int)), none, none]) rfl rfl rfl rfl rfl rfl ?_
  refine ax_load (q := 3) rfl rfl rfl rfl rfl ?_
  refine ax_getf (q := 6) (v := am_I ((y : Nat) : Int)) rfl rfl (am_fg rfl (by first | exact h5 | simpa [am_sI, am_up] using h5)) ?_
  refine ax_store (q := 8) (L' := [some (am_R 119), some (am_I ((i : Nat) : Int)), some (am_I 1), some (am_I ((i : Nat) : Int)), some (am_I ((y : Nat) : Int)), none]) rfl rfl rfl rfl rfl rfl ?_
  refine ax_load (q := 9) rfl rfl rfl rfl rfl ?_
  refine ax_const (q := 10) (v := am_I 4) rfl rfl rfl ?_
  refine ax_min (q := 13) (z := 1) rfl rfl rfl (by decide) ?_
  refine ax_const (q := 14) (v := am_I 2) rfl rfl rfl ?_
  refine ax_isub (q := 15) (z := (-1)) rfl rfl (am_we (by decide) (by decide) (by decide)) ?_
  refine ax_store (q := 17) (L' := [some (am_R 119), some (am_I ((i : Nat) : Int)), some (am_I 1), some (am_I ((i : Nat) : Int)), some (am_I ((y : Nat) : Int)), some (am_I (-1))]) rfl rfl rfl rfl rfl rfl ?_
  refine ax_load (q := 19) rfl rfl rfl rfl rfl ?_
  refine ax_if_lt (q := 22) (x := 64) rfl rfl (fun h19 => ?_) (fun h => absurd h (by omega))
  refine ax_load (q := 65) rfl rfl rfl rfl rfl ?_
  refine ax_getf (q := 68) (v := am_R 121) rfl rfl (rfl) ?_
  refine ax_load (q := 69) rfl rfl rfl rfl rfl ?_
  refine ax_const (q := 70) (v := am_I 1) rfl rfl rfl ?_
  refine ax_isub (q := 71) (z := 0) rfl rfl (am_we (by decide) (by decide) (by decide)) ?_
  refine ax_load (q := 73) rfl rfl rfl rfl rfl ?_
  refine bx_iast (q := 74) (k := 0) rfl rfl (rfl) (by omega) (by omega) ?_
  refine ax_load (q := 76) rfl rfl rfl rfl rfl ?_
  refine ax_if_lt (q := 79) (x := 83) rfl rfl (fun h76 => ?_) (fun h76 => ?_)
  · refine ax_const (q := 84) (v := am_I 0) rfl rfl rfl ?_
    exfalso
    omega
  · refine ax_const (q := 80) (v := am_I 1) rfl rfl rfl ?_
    refine ax_goto (x := 84) rfl ?_
    refine ax_ret (r := some (am_I 1)) rfl ⟨rfl, Or.inr rfl⟩ ?_
    have e : cf_ 1 y i = some [y, 0, 0, 0] := by unfold cf_; simp only [Nat.reduceLeDiff, Nat.reduceEqDiff, if_false, if_true]
    refine Eq.mp (congrArg (fun z => Q (some (am_I z)) _) ?_) (hQ _ (fr_sI (fr_rf _ _) (List.mem_singleton.mpr rfl)) (fun S hS k hk => ?_))
    · rw [e]; rfl
    · rw [e] at hS
      injection hS with hS
      subst hS
      rcases (by omega : k = 0) with rfl <;> simp only [sI_at, am_up_same, am_up_ne, ne_eq, Nat.reduceEqDiff, not_false_eq_true, List.getD_cons_zero, List.getD_cons_succ, d0, d1, d2] <;> omega

theorem x_fills2 {d : Nat} (hd : 1 ≤ d) {σ : am_S} {y i : Nat} (h5 : σ.1 119 5 = (y : Int)) (hy : y ≤ 12) (hi : i < 10000) {Q : Option am_V → am_S → Prop} (hQ : FI_ 2 y i σ Q) : am_Ev d 38 [am_R 119, am_I ((i : Nat) : Int), am_I ((2 : Nat) : Int)] σ Q := by
  obtain ⟨d, rfl⟩ : ∃ e, d = e + 1 := ⟨d - 1, by omega⟩
  have m0 := Nat.mod_lt i (show 0 < y + 1 by omega)
  have q0 := Nat.div_le_self i (y + 1)
  have m1 := Nat.mod_lt (i / (y + 1)) (show 0 < y + 1 by omega)
  have q1 := Nat.div_le_self (i / (y + 1)) (y + 1)
  have m2 := Nat.mod_lt (i / (y + 1) / (y + 1)) (show 0 < y + 1 by omega)
  have q2 := Nat.div_le_self (i / (y + 1) / (y + 1)) (y + 1)
  have d0 := dg_0 y i
  have d1 := dg_1 y i
  have d2 := dg_2 y i
  refine ev_in (m := 38) (c := k_X3_fillsYears) (L := [some (am_R 119), some (am_I ((i : Nat) : Int)), some (am_I 2), none, none, none]) rfl rfl rfl rfl rfl rfl ?_
  refine ax_load (q := 1) rfl rfl rfl rfl rfl ?_
  refine ax_store (q := 2) (L' := [some (am_R 119), some (am_I ((i : Nat) : Int)), some (am_I 2), some (am_I ((i : Nat) : Int)), none, none]) rfl rfl rfl rfl rfl rfl ?_
  refine ax_load (q := 3) rfl rfl rfl rfl rfl ?_
  refine ax_getf (q := 6) (v := am_I ((y : Nat) : Int)) rfl rfl (am_fg rfl (by first | exact h5 | simpa [am_sI, am_up] using h5)) ?_
  refine ax_store (q := 8) (L' := [some (am_R 119), some (am_I ((i : Nat) : Int)), some (am_I 2), some (am_I ((i : Nat) : Int)), some (am_I ((y : Nat) : Int)), none]) rfl rfl rfl rfl rfl rfl ?_
  refine ax_load (q := 9) rfl rfl rfl rfl rfl ?_
  refine ax_const (q := 10) (v := am_I 4) rfl rfl rfl ?_
  refine ax_min (q := 13) (z := 2) rfl rfl rfl (by decide) ?_
  refine ax_const (q := 14) (v := am_I 2) rfl rfl rfl ?_
  refine ax_isub (q := 15) (z := 0) rfl rfl (am_we (by decide) (by decide) (by decide)) ?_
  refine ax_store (q := 17) (L' := [some (am_R 119), some (am_I ((i : Nat) : Int)), some (am_I 2), some (am_I ((i : Nat) : Int)), some (am_I ((y : Nat) : Int)), some (am_I 0)]) rfl rfl rfl rfl rfl rfl ?_
  refine ax_load (q := 19) rfl rfl rfl rfl rfl ?_
  refine ax_if_lt (q := 22) (x := 64) rfl rfl (fun h => absurd h (by omega)) (fun h19 => ?_)
  refine ax_load (q := 23) rfl rfl rfl rfl rfl ?_
  refine ax_getf (q := 26) (v := am_R 121) rfl rfl (rfl) ?_
  refine ax_load (q := 28) rfl rfl rfl rfl rfl ?_
  refine ax_load (q := 29) rfl rfl rfl rfl rfl ?_
  refine ax_load (q := 30) rfl rfl rfl rfl rfl ?_
  refine ax_getf (q := 33) (v := am_I ((y : Nat) : Int)) rfl rfl (am_fg rfl (by first | exact h5 | simpa [am_sI, am_up] using h5)) ?_
  refine ax_const (q := 34) (v := am_I 1) rfl rfl rfl ?_
  refine ax_iadd (q := 35) (z := ((y + 1 : Nat) : Int)) rfl rfl (am_we (by omega) (by omega) (by omega)) ?_
  refine ax_irem (q := 36) (z := ((i % (y + 1) : Nat) : Int)) rfl rfl (by omega) (am_rem_nat (a := i) (b := y + 1) (by omega) (by omega) (by omega)) ?_
  refine bx_iast (q := 37) (k := 0) rfl rfl (rfl) (by omega) (by omega) ?_
  refine ax_load (q := 38) rfl rfl rfl rfl rfl ?_
  refine ax_load (q := 39) rfl rfl rfl rfl rfl ?_
  refine ax_getf (q := 42) (v := am_I ((y : Nat) : Int)) rfl rfl (am_fg rfl (by first | exact h5 | simpa [am_sI, am_up] using h5)) ?_
  refine ax_const (q := 43) (v := am_I 1) rfl rfl rfl ?_
  refine ax_iadd (q := 44) (z := ((y + 1 : Nat) : Int)) rfl rfl (am_we (by omega) (by omega) (by omega)) ?_
  refine ax_idiv (q := 45) (z := ((i / (y + 1) : Nat) : Int)) rfl rfl (by omega) (am_div_nat (a := i) (b := y + 1) (by omega) (by omega) (by omega)) ?_
  refine ax_store (q := 46) (L' := [some (am_R 119), some (am_I ((i : Nat) : Int)), some (am_I 2), some (am_I ((i / (y + 1) : Nat) : Int)), some (am_I ((y : Nat) : Int)), some (am_I 0)]) rfl rfl rfl rfl rfl rfl ?_
  refine ax_load (q := 48) rfl rfl rfl rfl rfl ?_
  refine ax_load (q := 49) rfl rfl rfl rfl rfl ?_
  refine ax_getf (q := 52) (v := am_R 121) rfl rfl (rfl) ?_
  refine ax_load (q := 54) rfl rfl rfl rfl rfl ?_
  refine bx_iald (q := 55) (k := 0) (z := ((i % (y + 1) : Nat) : Int)) rfl rfl (rfl) (by omega) (by omega) (by rw [sI_at, am_up_same]) ?_
  refine ax_isub (q := 56) (z := ((y : Nat) : Int) - ((i % (y + 1) : Nat) : Int)) rfl rfl (am_we (by omega) (by omega) (by omega)) ?_
  refine ax_store (q := 58) (L' := [some (am_R 119), some (am_I ((i : Nat) : Int)), some (am_I 2), some (am_I ((i / (y + 1) : Nat) : Int)), some (am_I (((y : Nat) : Int) - ((i % (y + 1) : Nat) : Int))), some (am_I 0)]) rfl rfl rfl rfl rfl rfl ?_
  refine ax_iinc (q := 61) (z' := (-1)) (L' := [some (am_R 119), some (am_I ((i : Nat) : Int)), some (am_I 2), some (am_I ((i / (y + 1) : Nat) : Int)), some (am_I (((y : Nat) : Int) - ((i % (y + 1) : Nat) : Int))), some (am_I (-1))]) rfl rfl rfl rfl (am_we (by omega) (by omega) (by omega)) rfl ?_
  refine ax_goto (x := 17) rfl ?_
  refine ax_load (q := 19) rfl rfl rfl rfl rfl ?_
  refine ax_if_lt (q := 22) (x := 64) rfl rfl (fun h19 => ?_) (fun h => absurd h (by omega))
  refine ax_load (q := 65) rfl rfl rfl rfl rfl ?_
  refine ax_getf (q := 68) (v := am_R 121) rfl rfl (rfl) ?_
  refine ax_load (q := 69) rfl rfl rfl rfl rfl ?_
  refine ax_const (q := 70) (v := am_I 1) rfl rfl rfl ?_
  refine ax_isub (q := 71) (z := 1) rfl rfl (am_we (by decide) (by decide) (by decide)) ?_
  refine ax_load (q := 73) rfl rfl rfl rfl rfl ?_
  refine bx_iast (q := 74) (k := 1) rfl rfl (rfl) (by omega) (by omega) ?_
  refine ax_load (q := 76) rfl rfl rfl rfl rfl ?_
  refine ax_if_lt (q := 79) (x := 83) rfl rfl (fun h76 => ?_) (fun h76 => ?_)
  · refine ax_const (q := 84) (v := am_I 0) rfl rfl rfl ?_
    exfalso
    omega
  · refine ax_const (q := 80) (v := am_I 1) rfl rfl rfl ?_
    refine ax_goto (x := 84) rfl ?_
    refine ax_ret (r := some (am_I 1)) rfl ⟨rfl, Or.inr rfl⟩ ?_
    have e : cf_ 2 y i = some [dg_ y i 0, y - dg_ y i 0, 0, 0] := by unfold cf_; simp only [Nat.reduceLeDiff, Nat.reduceEqDiff, if_false, if_true]
    refine Eq.mp (congrArg (fun z => Q (some (am_I z)) _) ?_) (hQ _ (fr_sI (fr_sI (fr_rf _ _) (List.mem_singleton.mpr rfl)) (List.mem_singleton.mpr rfl)) (fun S hS k hk => ?_))
    · rw [e]; rfl
    · rw [e] at hS
      injection hS with hS
      subst hS
      rcases (by omega : k = 0 ∨ k = 1) with rfl | rfl <;> simp only [sI_at, am_up_same, am_up_ne, ne_eq, Nat.reduceEqDiff, not_false_eq_true, List.getD_cons_zero, List.getD_cons_succ, d0, d1, d2] <;> omega

theorem x_fills3 {d : Nat} (hd : 1 ≤ d) {σ : am_S} {y i : Nat} (h5 : σ.1 119 5 = (y : Int)) (hy : y ≤ 12) (hi : i < 10000) {Q : Option am_V → am_S → Prop} (hQ : FI_ 3 y i σ Q) : am_Ev d 38 [am_R 119, am_I ((i : Nat) : Int), am_I ((3 : Nat) : Int)] σ Q := by
  obtain ⟨d, rfl⟩ : ∃ e, d = e + 1 := ⟨d - 1, by omega⟩
  have m0 := Nat.mod_lt i (show 0 < y + 1 by omega)
  have q0 := Nat.div_le_self i (y + 1)
  have m1 := Nat.mod_lt (i / (y + 1)) (show 0 < y + 1 by omega)
  have q1 := Nat.div_le_self (i / (y + 1)) (y + 1)
  have m2 := Nat.mod_lt (i / (y + 1) / (y + 1)) (show 0 < y + 1 by omega)
  have q2 := Nat.div_le_self (i / (y + 1) / (y + 1)) (y + 1)
  have d0 := dg_0 y i
  have d1 := dg_1 y i
  have d2 := dg_2 y i
  refine ev_in (m := 38) (c := k_X3_fillsYears) (L := [some (am_R 119), some (am_I ((i : Nat) : Int)), some (am_I 3), none, none, none]) rfl rfl rfl rfl rfl rfl ?_
  refine ax_load (q := 1) rfl rfl rfl rfl rfl ?_
  refine ax_store (q := 2) (L' := [some (am_R 119), some (am_I ((i : Nat) : Int)), some (am_I 3), some (am_I ((i : Nat) : Int)), none, none]) rfl rfl rfl rfl rfl rfl ?_
  refine ax_load (q := 3) rfl rfl rfl rfl rfl ?_
  refine ax_getf (q := 6) (v := am_I ((y : Nat) : Int)) rfl rfl (am_fg rfl (by first | exact h5 | simpa [am_sI, am_up] using h5)) ?_
  refine ax_store (q := 8) (L' := [some (am_R 119), some (am_I ((i : Nat) : Int)), some (am_I 3), some (am_I ((i : Nat) : Int)), some (am_I ((y : Nat) : Int)), none]) rfl rfl rfl rfl rfl rfl ?_
  refine ax_load (q := 9) rfl rfl rfl rfl rfl ?_
  refine ax_const (q := 10) (v := am_I 4) rfl rfl rfl ?_
  refine ax_min (q := 13) (z := 3) rfl rfl rfl (by decide) ?_
  refine ax_const (q := 14) (v := am_I 2) rfl rfl rfl ?_
  refine ax_isub (q := 15) (z := 1) rfl rfl (am_we (by decide) (by decide) (by decide)) ?_
  refine ax_store (q := 17) (L' := [some (am_R 119), some (am_I ((i : Nat) : Int)), some (am_I 3), some (am_I ((i : Nat) : Int)), some (am_I ((y : Nat) : Int)), some (am_I 1)]) rfl rfl rfl rfl rfl rfl ?_
  refine ax_load (q := 19) rfl rfl rfl rfl rfl ?_
  refine ax_if_lt (q := 22) (x := 64) rfl rfl (fun h => absurd h (by omega)) (fun h19 => ?_)
  refine ax_load (q := 23) rfl rfl rfl rfl rfl ?_
  refine ax_getf (q := 26) (v := am_R 121) rfl rfl (rfl) ?_
  refine ax_load (q := 28) rfl rfl rfl rfl rfl ?_
  refine ax_load (q := 29) rfl rfl rfl rfl rfl ?_
  refine ax_load (q := 30) rfl rfl rfl rfl rfl ?_
  refine ax_getf (q := 33) (v := am_I ((y : Nat) : Int)) rfl rfl (am_fg rfl (by first | exact h5 | simpa [am_sI, am_up] using h5)) ?_
  refine ax_const (q := 34) (v := am_I 1) rfl rfl rfl ?_
  refine ax_iadd (q := 35) (z := ((y + 1 : Nat) : Int)) rfl rfl (am_we (by omega) (by omega) (by omega)) ?_
  refine ax_irem (q := 36) (z := ((i % (y + 1) : Nat) : Int)) rfl rfl (by omega) (am_rem_nat (a := i) (b := y + 1) (by omega) (by omega) (by omega)) ?_
  refine bx_iast (q := 37) (k := 1) rfl rfl (rfl) (by omega) (by omega) ?_
  refine ax_load (q := 38) rfl rfl rfl rfl rfl ?_
  refine ax_load (q := 39) rfl rfl rfl rfl rfl ?_
  refine ax_getf (q := 42) (v := am_I ((y : Nat) : Int)) rfl rfl (am_fg rfl (by first | exact h5 | simpa [am_sI, am_up] using h5)) ?_
  refine ax_const (q := 43) (v := am_I 1) rfl rfl rfl ?_
  refine ax_iadd (q := 44) (z := ((y + 1 : Nat) : Int)) rfl rfl (am_we (by omega) (by omega) (by omega)) ?_
  refine ax_idiv (q := 45) (z := ((i / (y + 1) : Nat) : Int)) rfl rfl (by omega) (am_div_nat (a := i) (b := y + 1) (by omega) (by omega) (by omega)) ?_
  refine ax_store (q := 46) (L' := [some (am_R 119), some (am_I ((i : Nat) : Int)), some (am_I 3), some (am_I ((i / (y + 1) : Nat) : Int)), some (am_I ((y : Nat) : Int)), some (am_I 1)]) rfl rfl rfl rfl rfl rfl ?_
  refine ax_load (q := 48) rfl rfl rfl rfl rfl ?_
  refine ax_load (q := 49) rfl rfl rfl rfl rfl ?_
  refine ax_getf (q := 52) (v := am_R 121) rfl rfl (rfl) ?_
  refine ax_load (q := 54) rfl rfl rfl rfl rfl ?_
  refine bx_iald (q := 55) (k := 1) (z := ((i % (y + 1) : Nat) : Int)) rfl rfl (rfl) (by omega) (by omega) (by rw [sI_at, am_up_same]) ?_
  refine ax_isub (q := 56) (z := ((y : Nat) : Int) - ((i % (y + 1) : Nat) : Int)) rfl rfl (am_we (by omega) (by omega) (by omega)) ?_
  refine ax_store (q := 58) (L' := [some (am_R 119), some (am_I ((i : Nat) : Int)), some (am_I 3), some (am_I ((i / (y + 1) : Nat) : Int)), some (am_I (((y : Nat) : Int) - ((i % (y + 1) : Nat) : Int))), some (am_I 1)]) rfl rfl rfl rfl rfl rfl ?_
  refine ax_iinc (q := 61) (z' := ((0 : Nat) : Int)) (L' := [some (am_R 119), some (am_I ((i : Nat) : Int)), some (am_I 3), some (am_I ((i / (y + 1) : Nat) : Int)), some (am_I (((y : Nat) : Int) - ((i % (y + 1) : Nat) : Int))), some (am_I ((0 : Nat) : Int))]) rfl rfl rfl rfl (am_we (by omega) (by omega) (by omega)) rfl ?_
  refine ax_goto (x := 17) rfl ?_
  refine ax_load (q := 19) rfl rfl rfl rfl rfl ?_
  refine ax_if_lt (q := 22) (x := 64) rfl rfl (fun h => absurd h (by omega)) (fun h19 => ?_)
  refine ax_load (q := 23) rfl rfl rfl rfl rfl ?_
  refine ax_getf (q := 26) (v := am_R 121) rfl rfl (rfl) ?_
  refine ax_load (q := 28) rfl rfl rfl rfl rfl ?_
  refine ax_load (q := 29) rfl rfl rfl rfl rfl ?_
  refine ax_load (q := 30) rfl rfl rfl rfl rfl ?_
  refine ax_getf (q := 33) (v := am_I ((y : Nat) : Int)) rfl rfl (am_fg rfl (by first | exact h5 | simpa [am_sI, am_up] using h5)) ?_
  refine ax_const (q := 34) (v := am_I 1) rfl rfl rfl ?_
  refine ax_iadd (q := 35) (z := ((y + 1 : Nat) : Int)) rfl rfl (am_we (by omega) (by omega) (by omega)) ?_
  refine ax_irem (q := 36) (z := (((i / (y + 1)) % (y + 1) : Nat) : Int)) rfl rfl (by omega) (am_rem_nat (a := i / (y + 1)) (b := y + 1) (by omega) (by omega) (by omega)) ?_
  refine bx_iast (q := 37) (k := 0) rfl rfl (rfl) (by omega) (by omega) ?_
  refine ax_load (q := 38) rfl rfl rfl rfl rfl ?_
  refine ax_load (q := 39) rfl rfl rfl rfl rfl ?_
  refine ax_getf (q := 42) (v := am_I ((y : Nat) : Int)) rfl rfl (am_fg rfl (by first | exact h5 | simpa [am_sI, am_up] using h5)) ?_
  refine ax_const (q := 43) (v := am_I 1) rfl rfl rfl ?_
  refine ax_iadd (q := 44) (z := ((y + 1 : Nat) : Int)) rfl rfl (am_we (by omega) (by omega) (by omega)) ?_
  refine ax_idiv (q := 45) (z := (((i / (y + 1)) / (y + 1) : Nat) : Int)) rfl rfl (by omega) (am_div_nat (a := i / (y + 1)) (b := y + 1) (by omega) (by omega) (by omega)) ?_
  refine ax_store (q := 46) (L' := [some (am_R 119), some (am_I ((i : Nat) : Int)), some (am_I 3), some (am_I (((i / (y + 1)) / (y + 1) : Nat) : Int)), some (am_I (((y : Nat) : Int) - ((i % (y + 1) : Nat) : Int))), some (am_I ((0 : Nat) : Int))]) rfl rfl rfl rfl rfl rfl ?_
  refine ax_load (q := 48) rfl rfl rfl rfl rfl ?_
  refine ax_load (q := 49) rfl rfl rfl rfl rfl ?_
  refine ax_getf (q := 52) (v := am_R 121) rfl rfl (rfl) ?_
  refine ax_load (q := 54) rfl rfl rfl rfl rfl ?_
  refine bx_iald (q := 55) (k := 0) (z := (((i / (y + 1)) % (y + 1) : Nat) : Int)) rfl rfl (rfl) (by omega) (by omega) (by rw [sI_at, am_up_same]) ?_
  refine ax_isub (q := 56) (z := ((y : Nat) : Int) - ((i % (y + 1) : Nat) : Int) - (((i / (y + 1)) % (y + 1) : Nat) : Int)) rfl rfl (am_we (by omega) (by omega) (by omega)) ?_
  refine ax_store (q := 58) (L' := [some (am_R 119), some (am_I ((i : Nat) : Int)), some (am_I 3), some (am_I (((i / (y + 1)) / (y + 1) : Nat) : Int)), some (am_I (((y : Nat) : Int) - ((i % (y + 1) : Nat) : Int) - (((i / (y + 1)) % (y + 1) : Nat) : Int))), some (am_I ((0 : Nat) : Int))]) rfl rfl rfl rfl rfl rfl ?_
  refine ax_iinc (q := 61) (z' := (-1)) (L' := [some (am_R 119), some (am_I ((i : Nat) : Int)), some (am_I 3), some (am_I (((i / (y + 1)) / (y + 1) : Nat) : Int)), some (am_I (((y : Nat) : Int) - ((i % (y + 1) : Nat) : Int) - (((i / (y + 1)) % (y + 1) : Nat) : Int))), some (am_I (-1))]) rfl rfl rfl rfl (am_we (by omega) (by omega) (by omega)) rfl ?_
  refine ax_goto (x := 17) rfl ?_
  refine ax_load (q := 19) rfl rfl rfl rfl rfl ?_
  refine ax_if_lt (q := 22) (x := 64) rfl rfl (fun h19 => ?_) (fun h => absurd h (by omega))
  refine ax_load (q := 65) rfl rfl rfl rfl rfl ?_
  refine ax_getf (q := 68) (v := am_R 121) rfl rfl (rfl) ?_
  refine ax_load (q := 69) rfl rfl rfl rfl rfl ?_
  refine ax_const (q := 70) (v := am_I 1) rfl rfl rfl ?_
  refine ax_isub (q := 71) (z := 2) rfl rfl (am_we (by decide) (by decide) (by decide)) ?_
  refine ax_load (q := 73) rfl rfl rfl rfl rfl ?_
  refine bx_iast (q := 74) (k := 2) rfl rfl (rfl) (by omega) (by omega) ?_
  refine ax_load (q := 76) rfl rfl rfl rfl rfl ?_
  refine ax_if_lt (q := 79) (x := 83) rfl rfl (fun h76 => ?_) (fun h76 => ?_)
  · refine ax_const (q := 84) (v := am_I 0) rfl rfl rfl ?_
    refine ax_ret (r := some (am_I 0)) rfl ⟨rfl, Or.inl rfl⟩ ?_
    have e : cf_ 3 y i = none := by unfold cf_; simp only [Nat.reduceLeDiff, Nat.reduceEqDiff, if_false, if_true]; exact if_neg (by omega)
    refine Eq.mp (congrArg (fun z => Q (some (am_I z)) _) ?_) (hQ _ (fr_sI (fr_sI (fr_sI (fr_rf _ _) (List.mem_singleton.mpr rfl)) (List.mem_singleton.mpr rfl)) (List.mem_singleton.mpr rfl)) (fun S hS k hk => ?_))
    · rw [e]; rfl
    · rw [e] at hS; cases hS
  · refine ax_const (q := 80) (v := am_I 1) rfl rfl rfl ?_
    refine ax_goto (x := 84) rfl ?_
    refine ax_ret (r := some (am_I 1)) rfl ⟨rfl, Or.inr rfl⟩ ?_
    have e : cf_ 3 y i = some [dg_ y i 1, dg_ y i 0, y - (dg_ y i 1 + dg_ y i 0), 0] := by unfold cf_; simp only [Nat.reduceLeDiff, Nat.reduceEqDiff, if_false, if_true]; exact if_pos (by omega)
    refine Eq.mp (congrArg (fun z => Q (some (am_I z)) _) ?_) (hQ _ (fr_sI (fr_sI (fr_sI (fr_rf _ _) (List.mem_singleton.mpr rfl)) (List.mem_singleton.mpr rfl)) (List.mem_singleton.mpr rfl)) (fun S hS k hk => ?_))
    · rw [e]; rfl
    · rw [e] at hS
      injection hS with hS
      subst hS
      rcases (by omega : k = 0 ∨ k = 1 ∨ k = 2) with rfl | rfl | rfl <;> simp only [sI_at, am_up_same, am_up_ne, ne_eq, Nat.reduceEqDiff, not_false_eq_true, List.getD_cons_zero, List.getD_cons_succ, d0, d1, d2] <;> omega

theorem x_fills4 {d : Nat} (hd : 1 ≤ d) {σ : am_S} {y i : Nat} (h5 : σ.1 119 5 = (y : Int)) (hy : y ≤ 12) (hi : i < 10000) {Q : Option am_V → am_S → Prop} (hQ : FI_ 4 y i σ Q) : am_Ev d 38 [am_R 119, am_I ((i : Nat) : Int), am_I ((4 : Nat) : Int)] σ Q := by
  obtain ⟨d, rfl⟩ : ∃ e, d = e + 1 := ⟨d - 1, by omega⟩
  have m0 := Nat.mod_lt i (show 0 < y + 1 by omega)
  have q0 := Nat.div_le_self i (y + 1)
  have m1 := Nat.mod_lt (i / (y + 1)) (show 0 < y + 1 by omega)
  have q1 := Nat.div_le_self (i / (y + 1)) (y + 1)
  have m2 := Nat.mod_lt (i / (y + 1) / (y + 1)) (show 0 < y + 1 by omega)
  have q2 := Nat.div_le_self (i / (y + 1) / (y + 1)) (y + 1)
  have d0 := dg_0 y i
  have d1 := dg_1 y i
  have d2 := dg_2 y i
  refine ev_in (m := 38) (c := k_X3_fillsYears) (L := [some (am_R 119), some (am_I ((i : Nat) : Int)), some (am_I 4), none, none, none]) rfl rfl rfl rfl rfl rfl ?_
  refine ax_load (q := 1) rfl rfl rfl rfl rfl ?_
  refine ax_store (q := 2) (L' := [some (am_R 119), some (am_I ((i : Nat) : Int)), some (am_I 4), some (am_I ((i : Nat) : Int)), none, none]) rfl rfl rfl rfl rfl rfl ?_
  refine ax_load (q := 3) rfl rfl rfl rfl rfl ?_
  refine ax_getf (q := 6) (v := am_I ((y : Nat) : Int)) rfl rfl (am_fg rfl (by first | exact h5 | simpa [am_sI, am_up] using h5)) ?_
  refine ax_store (q := 8) (L' := [some (am_R 119), some (am_I ((i : Nat) : Int)), some (am_I 4), some (am_I ((i : Nat) : Int)), some (am_I ((y : Nat) : Int)), none]) rfl rfl rfl rfl rfl rfl ?_
  refine ax_load (q := 9) rfl rfl rfl rfl rfl ?_
  refine ax_const (q := 10) (v := am_I 4) rfl rfl rfl ?_
  refine ax_min (q := 13) (z := 4) rfl rfl rfl (by decide) ?_
  refine ax_const (q := 14) (v := am_I 2) rfl rfl rfl ?_
  refine ax_isub (q := 15) (z := 2) rfl rfl (am_we (by decide) (by decide) (by decide)) ?_
  refine ax_store (q := 17) (L' := [some (am_R 119), some (am_I ((i : Nat) : Int)), some (am_I 4), some (am_I ((i : Nat) : Int)), some (am_I ((y : Nat) : Int)), some (am_I 2)]) rfl rfl rfl rfl rfl rfl ?_
  refine ax_load (q := 19) rfl rfl rfl rfl rfl ?_
  refine ax_if_lt (q := 22) (x := 64) rfl rfl (fun h => absurd h (by omega)) (fun h19 => ?_)
  refine ax_load (q := 23) rfl rfl rfl rfl rfl ?_
  refine ax_getf (q := 26) (v := am_R 121) rfl rfl (rfl) ?_
  refine ax_load (q := 28) rfl rfl rfl rfl rfl ?_
  refine ax_load (q := 29) rfl rfl rfl rfl rfl ?_
  refine ax_load (q := 30) rfl rfl rfl rfl rfl ?_
  refine ax_getf (q := 33) (v := am_I ((y : Nat) : Int)) rfl rfl (am_fg rfl (by first | exact h5 | simpa [am_sI, am_up] using h5)) ?_
  refine ax_const (q := 34) (v := am_I 1) rfl rfl rfl ?_
  refine ax_iadd (q := 35) (z := ((y + 1 : Nat) : Int)) rfl rfl (am_we (by omega) (by omega) (by omega)) ?_
  refine ax_irem (q := 36) (z := ((i % (y + 1) : Nat) : Int)) rfl rfl (by omega) (am_rem_nat (a := i) (b := y + 1) (by omega) (by omega) (by omega)) ?_
  refine bx_iast (q := 37) (k := 2) rfl rfl (rfl) (by omega) (by omega) ?_
  refine ax_load (q := 38) rfl rfl rfl rfl rfl ?_
  refine ax_load (q := 39) rfl rfl rfl rfl rfl ?_
  refine ax_getf (q := 42) (v := am_I ((y : Nat) : Int)) rfl rfl (am_fg rfl (by first | exact h5 | simpa [am_sI, am_up] using h5)) ?_
  refine ax_const (q := 43) (v := am_I 1) rfl rfl rfl ?_
  refine ax_iadd (q := 44) (z := ((y + 1 : Nat) : Int)) rfl rfl (am_we (by omega) (by omega) (by omega)) ?_
  refine ax_idiv (q := 45) (z := ((i / (y + 1) : Nat) : Int)) rfl rfl (by omega) (am_div_nat (a := i) (b := y + 1) (by omega) (by omega) (by omega)) ?_
  refine ax_store (q := 46) (L' := [some (am_R 119), some (am_I ((i : Nat) : Int)), some (am_I 4), some (am_I ((i / (y + 1) : Nat) : Int)), some (am_I ((y : Nat) : Int)), some (am_I 2)]) rfl rfl rfl rfl rfl rfl ?_
  refine ax_load (q := 48) rfl rfl rfl rfl rfl ?_
  refine ax_load (q := 49) rfl rfl rfl rfl rfl ?_
  refine ax_getf (q := 52) (v := am_R 121) rfl rfl (rfl) ?_
  refine ax_load (q := 54) rfl rfl rfl rfl rfl ?_
  refine bx_iald (q := 55) (k := 2) (z := ((i % (y + 1) : Nat) : Int)) rfl rfl (rfl) (by omega) (by omega) (by rw [sI_at, am_up_same]) ?_
  refine ax_isub (q := 56) (z := ((y : Nat) : Int) - ((i % (y + 1) : Nat) : Int)) rfl rfl (am_we (by omega) (by omega) (by omega)) ?_
  refine ax_store (q := 58) (L' := [some (am_R 119), some (am_I ((i : Nat) : Int)), some (am_I 4), some (am_I ((i / (y + 1) : Nat) : Int)), some (am_I (((y : Nat) : Int) - ((i % (y + 1) : Nat) : Int))), some (am_I 2)]) rfl rfl rfl rfl rfl rfl ?_
  refine ax_iinc (q := 61) (z' := ((1 : Nat) : Int)) (L' := [some (am_R 119), some (am_I ((i : Nat) : Int)), some (am_I 4), some (am_I ((i / (y + 1) : Nat) : Int)), some (am_I (((y : Nat) : Int) - ((i % (y + 1) : Nat) : Int))), some (am_I ((1 : Nat) : Int))]) rfl rfl rfl rfl (am_we (by omega) (by omega) (by omega)) rfl ?_
  refine ax_goto (x := 17) rfl ?_
  refine ax_load (q := 19) rfl rfl rfl rfl rfl ?_
  refine ax_if_lt (q := 22) (x := 64) rfl rfl (fun h => absurd h (by omega)) (fun h19 => ?_)
  refine ax_load (q := 23) rfl rfl rfl rfl rfl ?_
  refine ax_getf (q := 26) (v := am_R 121) rfl rfl (rfl) ?_
  refine ax_load (q := 28) rfl rfl rfl rfl rfl ?_
  refine ax_load (q := 29) rfl rfl rfl rfl rfl ?_
  refine ax_load (q := 30) rfl rfl rfl rfl rfl ?_
  refine ax_getf (q := 33) (v := am_I ((y : Nat) : Int)) rfl rfl (am_fg rfl (by first | exact h5 | simpa [am_sI, am_up] using h5)) ?_
  refine ax_const (q := 34) (v := am_I 1) rfl rfl rfl ?_
  refine ax_iadd (q := 35) (z := ((y + 1 : Nat) : Int)) rfl rfl (am_we (by omega) (by omega) (by omega)) ?_
  refine ax_irem (q := 36) (z := (((i / (y + 1)) % (y + 1) : Nat) : Int)) rfl rfl (by omega) (am_rem_nat (a := i / (y + 1)) (b := y + 1) (by omega) (by omega) (by omega)) ?_
  refine bx_iast (q := 37) (k := 1) rfl rfl (rfl) (by omega) (by omega) ?_
  refine ax_load (q := 38) rfl rfl rfl rfl rfl ?_
  refine ax_load (q := 39) rfl rfl rfl rfl rfl ?_
  refine ax_getf (q := 42) (v := am_I ((y : Nat) : Int)) rfl rfl (am_fg rfl (by first | exact h5 | simpa [am_sI, am_up] using h5)) ?_
  refine ax_const (q := 43) (v := am_I 1) rfl rfl rfl ?_
  refine ax_iadd (q := 44) (z := ((y + 1 : Nat) : Int)) rfl rfl (am_we (by omega) (by omega) (by omega)) ?_
  refine ax_idiv (q := 45) (z := (((i / (y + 1)) / (y + 1) : Nat) : Int)) rfl rfl (by omega) (am_div_nat (a := i / (y + 1)) (b := y + 1) (by omega) (by omega) (by omega)) ?_
  refine ax_store (q := 46) (L' := [some (am_R 119), some (am_I ((i : Nat) : Int)), some (am_I 4), some (am_I (((i / (y + 1)) / (y + 1) : Nat) : Int)), some (am_I (((y : Nat) : Int) - ((i % (y + 1) : Nat) : Int))), some (am_I ((1 : Nat) : Int))]) rfl rfl rfl rfl rfl rfl ?_
  refine ax_load (q := 48) rfl rfl rfl rfl rfl ?_
  refine ax_load (q := 49) rfl rfl rfl rfl rfl ?_
  refine ax_getf (q := 52) (v := am_R 121) rfl rfl (rfl) ?_
  refine ax_load (q := 54) rfl rfl rfl rfl rfl ?_
  refine bx_iald (q := 55) (k := 1) (z := (((i / (y + 1)) % (y + 1) : Nat) : Int)) rfl rfl (rfl) (by omega) (by omega) (by rw [sI_at, am_up_same]) ?_
  refine ax_isub (q := 56) (z := ((y : Nat) : Int) - ((i % (y + 1) : Nat) : Int) - (((i / (y + 1)) % (y + 1) : Nat) : Int)) rfl rfl (am_we (by omega) (by omega) (by omega)) ?_
  refine ax_store (q := 58) (L' := [some (am_R 119), some (am_I ((i : Nat) : Int)), some (am_I 4), some (am_I (((i / (y + 1)) / (y + 1) : Nat) : Int)), some (am_I (((y : Nat) : Int) - ((i % (y + 1) : Nat) : Int) - (((i / (y + 1)) % (y + 1) : Nat) : Int))), some (am_I ((1 : Nat) : Int))]) rfl rfl rfl rfl rfl rfl ?_
  refine ax_iinc (q := 61) (z' := ((0 : Nat) : Int)) (L' := [some (am_R 119), some (am_I ((i : Nat) : Int)), some (am_I 4), some (am_I (((i / (y + 1)) / (y + 1) : Nat) : Int)), some (am_I (((y : Nat) : Int) - ((i % (y + 1) : Nat) : Int) - (((i / (y + 1)) % (y + 1) : Nat) : Int))), some (am_I ((0 : Nat) : Int))]) rfl rfl rfl rfl (am_we (by omega) (by omega) (by omega)) rfl ?_
  refine ax_goto (x := 17) rfl ?_
  refine ax_load (q := 19) rfl rfl rfl rfl rfl ?_
  refine ax_if_lt (q := 22) (x := 64) rfl rfl (fun h => absurd h (by omega)) (fun h19 => ?_)
  refine ax_load (q := 23) rfl rfl rfl rfl rfl ?_
  refine ax_getf (q := 26) (v := am_R 121) rfl rfl (rfl) ?_
  refine ax_load (q := 28) rfl rfl rfl rfl rfl ?_
  refine ax_load (q := 29) rfl rfl rfl rfl rfl ?_
  refine ax_load (q := 30) rfl rfl rfl rfl rfl ?_
  refine ax_getf (q := 33) (v := am_I ((y : Nat) : Int)) rfl rfl (am_fg rfl (by first | exact h5 | simpa [am_sI, am_up] using h5)) ?_
  refine ax_const (q := 34) (v := am_I 1) rfl rfl rfl ?_
  refine ax_iadd (q := 35) (z := ((y + 1 : Nat) : Int)) rfl rfl (am_we (by omega) (by omega) (by omega)) ?_
  refine ax_irem (q := 36) (z := ((((i / (y + 1)) / (y + 1)) % (y + 1) : Nat) : Int)) rfl rfl (by omega) (am_rem_nat (a := (i / (y + 1)) / (y + 1)) (b := y + 1) (by omega) (by omega) (by omega)) ?_
  refine bx_iast (q := 37) (k := 0) rfl rfl (rfl) (by omega) (by omega) ?_
  refine ax_load (q := 38) rfl rfl rfl rfl rfl ?_
  refine ax_load (q := 39) rfl rfl rfl rfl rfl ?_
  refine ax_getf (q := 42) (v := am_I ((y : Nat) : Int)) rfl rfl (am_fg rfl (by first | exact h5 | simpa [am_sI, am_up] using h5)) ?_
  refine ax_const (q := 43) (v := am_I 1) rfl rfl rfl ?_
  refine ax_iadd (q := 44) (z := ((y + 1 : Nat) : Int)) rfl rfl (am_we (by omega) (by omega) (by omega)) ?_
  refine ax_idiv (q := 45) (z := ((((i / (y + 1)) / (y + 1)) / (y + 1) : Nat) : Int)) rfl rfl (by omega) (am_div_nat (a := (i / (y + 1)) / (y + 1)) (b := y + 1) (by omega) (by omega) (by omega)) ?_
  refine ax_store (q := 46) (L' := [some (am_R 119), some (am_I ((i : Nat) : Int)), some (am_I 4), some (am_I ((((i / (y + 1)) / (y + 1)) / (y + 1) : Nat) : Int)), some (am_I (((y : Nat) : Int) - ((i % (y + 1) : Nat) : Int) - (((i / (y + 1)) % (y + 1) : Nat) : Int))), some (am_I ((0 : Nat) : Int))]) rfl rfl rfl rfl rfl rfl ?_
  refine ax_load (q := 48) rfl rfl rfl rfl rfl ?_
  refine ax_load (q := 49) rfl rfl rfl rfl rfl ?_
  refine ax_getf (q := 52) (v := am_R 121) rfl rfl (rfl) ?_
  refine ax_load (q := 54) rfl rfl rfl rfl rfl ?_
  refine bx_iald (q := 55) (k := 0) (z := (((i / (y + 1) / (y + 1)) % (y + 1) : Nat) : Int)) rfl rfl (rfl) (by omega) (by omega) (by rw [sI_at, am_up_same]) ?_
  refine ax_isub (q := 56) (z := ((y : Nat) : Int) - ((i % (y + 1) : Nat) : Int) - (((i / (y + 1)) % (y + 1) : Nat) : Int) - (((i / (y + 1) / (y + 1)) % (y + 1) : Nat) : Int)) rfl rfl (am_we (by omega) (by omega) (by omega)) ?_
  refine ax_store (q := 58) (L' := [some (am_R 119), some (am_I ((i : Nat) : Int)), some (am_I 4), some (am_I ((((i / (y + 1)) / (y + 1)) / (y + 1) : Nat) : Int)), some (am_I (((y : Nat) : Int) - ((i % (y + 1) : Nat) : Int) - (((i / (y + 1)) % (y + 1) : Nat) : Int) - (((i / (y + 1) / (y + 1)) % (y + 1) : Nat) : Int))), some (am_I ((0 : Nat) : Int))]) rfl rfl rfl rfl rfl rfl ?_
  refine ax_iinc (q := 61) (z' := (-1)) (L' := [some (am_R 119), some (am_I ((i : Nat) : Int)), some (am_I 4), some (am_I ((((i / (y + 1)) / (y + 1)) / (y + 1) : Nat) : Int)), some (am_I (((y : Nat) : Int) - ((i % (y + 1) : Nat) : Int) - (((i / (y + 1)) % (y + 1) : Nat) : Int) - (((i / (y + 1) / (y + 1)) % (y + 1) : Nat) : Int))), some (am_I (-1))]) rfl rfl rfl rfl (am_we (by omega) (by omega) (by omega)) rfl ?_
  refine ax_goto (x := 17) rfl ?_
  refine ax_load (q := 19) rfl rfl rfl rfl rfl ?_
  refine ax_if_lt (q := 22) (x := 64) rfl rfl (fun h19 => ?_) (fun h => absurd h (by omega))
  refine ax_load (q := 65) rfl rfl rfl rfl rfl ?_
  refine ax_getf (q := 68) (v := am_R 121) rfl rfl (rfl) ?_
  refine ax_load (q := 69) rfl rfl rfl rfl rfl ?_
  refine ax_const (q := 70) (v := am_I 1) rfl rfl rfl ?_
  refine ax_isub (q := 71) (z := 3) rfl rfl (am_we (by decide) (by decide) (by decide)) ?_
  refine ax_load (q := 73) rfl rfl rfl rfl rfl ?_
  refine bx_iast (q := 74) (k := 3) rfl rfl (rfl) (by omega) (by omega) ?_
  refine ax_load (q := 76) rfl rfl rfl rfl rfl ?_
  refine ax_if_lt (q := 79) (x := 83) rfl rfl (fun h76 => ?_) (fun h76 => ?_)
  · refine ax_const (q := 84) (v := am_I 0) rfl rfl rfl ?_
    refine ax_ret (r := some (am_I 0)) rfl ⟨rfl, Or.inl rfl⟩ ?_
    have e : cf_ 4 y i = none := by unfold cf_; simp only [Nat.reduceLeDiff, Nat.reduceEqDiff, if_false, if_true]; exact if_neg (by omega)
    refine Eq.mp (congrArg (fun z => Q (some (am_I z)) _) ?_) (hQ _ (fr_sI (fr_sI (fr_sI (fr_sI (fr_rf _ _) (List.mem_singleton.mpr rfl)) (List.mem_singleton.mpr rfl)) (List.mem_singleton.mpr rfl)) (List.mem_singleton.mpr rfl)) (fun S hS k hk => ?_))
    · rw [e]; rfl
    · rw [e] at hS; cases hS
  · refine ax_const (q := 80) (v := am_I 1) rfl rfl rfl ?_
    refine ax_goto (x := 84) rfl ?_
    refine ax_ret (r := some (am_I 1)) rfl ⟨rfl, Or.inr rfl⟩ ?_
    have e : cf_ 4 y i = some [dg_ y i 2, dg_ y i 1, dg_ y i 0, y - (dg_ y i 2 + dg_ y i 1 + dg_ y i 0)] := by unfold cf_; simp only [Nat.reduceLeDiff, Nat.reduceEqDiff, if_false, if_true]; exact if_pos (by omega)
    refine Eq.mp (congrArg (fun z => Q (some (am_I z)) _) ?_) (hQ _ (fr_sI (fr_sI (fr_sI (fr_sI (fr_rf _ _) (List.mem_singleton.mpr rfl)) (List.mem_singleton.mpr rfl)) (List.mem_singleton.mpr rfl)) (List.mem_singleton.mpr rfl)) (fun S hS k hk => ?_))
    · rw [e]; rfl
    · rw [e] at hS
      injection hS with hS
      subst hS
      rcases (by omega : k = 0 ∨ k = 1 ∨ k = 2 ∨ k = 3) with rfl | rfl | rfl | rfl <;> simp only [sI_at, am_up_same, am_up_ne, ne_eq, Nat.reduceEqDiff, not_false_eq_true, List.getD_cons_zero, List.getD_cons_succ, d0, d1, d2] <;> omega

theorem x_fills {d : Nat} (hd : 1 ≤ d) {σ : am_S} {n y i : Nat} (hn : 1 ≤ n) (hn4 : n ≤ 4) (h5 : σ.1 119 5 = (y : Int)) (hy : y ≤ 12) (hi : i < 10000) {Q : Option am_V → am_S → Prop} (hQ : FI_ n y i σ Q) : am_Ev d 38 [am_R 119, am_I ((i : Nat) : Int), am_I ((n : Nat) : Int)] σ Q := by
  rcases (by omega : n = 1 ∨ n = 2 ∨ n = 3 ∨ n = 4) with rfl | rfl | rfl | rfl
  · exact x_fills1 hd h5 hy hi hQ
  · exact x_fills2 hd h5 hy hi hQ
  · exact x_fills3 hd h5 hy hi hQ
  · exact x_fills4 hd h5 hy hi hQ

