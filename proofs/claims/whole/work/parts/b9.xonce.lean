theorem x_takesOnce {d : Nat} (hd : 4 ≤ d) {σ : am_S} {tp : Nat → Int} {n t p : Nat} (hC : RC_ tp n t p σ) {i : Nat} (hi : i < 21) (hki : kx_ tp n p = (i : Int)) {o : Nat} (ho : σ.1 66 11 = (o : Int)) (ho9 : o < 2 ^ 21) {Q : Option am_V → am_S → Prop} (hN : o.testBit i = true → ∀ σ', gx_ [] [] [0, 1] σ σ' → σ'.2.1 = σ.2.1 → FX_ tp n (2, p) σ' → Q (some (am_I (0))) σ') (hY : o.testBit i = false → ∀ σ', gx_ [] [] [5, 6, 7, 9, 11] σ σ' → σ'.1 66 11 = ((o ||| 2 ^ i : Nat) : Int) → RC_ tp n t (nxp_ tp n p) σ' → Q (some (am_I 1)) σ') : am_Ev d 51 [am_R 66] σ Q := by
  obtain ⟨d, rfl⟩ : ∃ e, d = e + 1 := ⟨d - 1, by omega⟩
  have h3 : tks_ tp n p ≠ 3 := fun e => by have := (kx_3 (tp := tp) (n := n) (p := p)).mpr e; omega
  have hp2 : 2 ^ i < 2 ^ 21 := Nat.pow_lt_pow_right (by decide) hi
  have hp0 : 1 ≤ 2 ^ i := Nat.one_le_two_pow
  have hor : o ||| 2 ^ i < 2 ^ 21 := Nat.or_lt_two_pow ho9 hp2
  refine ev_in (m := 51) (c := k_X4_takesOnce) (L := [some (am_R 66), none]) rfl rfl rfl rfl rfl rfl ?_
  refine ax_const (q := 1) (v := am_I 1) rfl rfl rfl ?_
  refine ax_load (q := 2) rfl rfl rfl rfl rfl ?_
  refine ax_getf (q := 5) (v := am_I ((i : Nat) : Int)) rfl rfl (am_fg rfl (hC.kx.2.1.trans hki)) ?_
  refine ax_ishl (q := 6) (z := ((2 ^ i : Nat) : Int)) rfl rfl (am_shl1 i (by omega)) ?_
  refine ax_store (q := 7) (L' := [some (am_R 66), some (am_I ((2 ^ i : Nat) : Int))]) rfl rfl rfl rfl rfl rfl ?_
  refine ax_load (q := 8) rfl rfl rfl rfl rfl ?_
  refine ax_getf (q := 11) (v := am_I ((o : Nat) : Int)) rfl rfl (am_fg rfl ho) ?_
  refine ax_load (q := 12) rfl rfl rfl rfl rfl ?_
  refine ax_iand (q := 13) (z := ((o &&& 2 ^ i : Nat) : Int)) rfl rfl (am_and_nat (by omega) (by omega)) ?_
  refine ax_if_eq (q := 16) (x := 22) rfl rfl (fun h13 => ?_) (fun h13 => ?_)
  · rw [and_2k] at h13
    have hb : o.testBit i = false := by
      cases w : o.testBit i with
      | false => rfl
      | true => rw [w, if_pos rfl] at h13; omega
    refine ax_load (q := 23) rfl rfl rfl rfl rfl ?_
    refine ax_dup (q := 24) rfl rfl rfl ?_
    refine ax_getf (q := 27) (v := am_I ((o : Nat) : Int)) rfl rfl (am_fg rfl ho) ?_
    refine ax_load (q := 28) rfl rfl rfl rfl rfl ?_
    refine ax_ior (q := 29) (z := ((o ||| 2 ^ i : Nat) : Int)) rfl rfl (am_or_nat (by omega) (by omega)) ?_
    refine ax_putf (q := 32) rfl rfl rfl ?_
    refine ax_load (q := 33) rfl rfl rfl rfl rfl ?_
    refine ax_callv (q := 36) rfl rfl rfl rfl rfl rfl ?_
    have hfz := gx_s (gx_rf [] [] [11] σ) (k := 11) (z := ((o ||| 2 ^ i : Nat) : Int)) (by simp)
    have hC1 := hC.fr hfz (by simp) (by simp) (by simp) rfl
    refine x_nextT (by omega) hC1 h3 (fun σ2 hf2 hC2 => ?_)
    refine ax_const (q := 37) (v := am_I 1) rfl rfl rfl ?_
    refine ax_ret (r := some (am_I 1)) rfl ⟨rfl, Or.inr rfl⟩ ?_
    exact hY hb _ (gx_tr hfz hf2 (fun _ q => q) (fun _ q => q) (fun _ q => q) (fun _ q => q) (by intro x hx; simp at hx ⊢; omega) (by intro x hx; simp at hx ⊢; omega)) (by rw [hf2.2.1 11 (by simp), sI_at, am_up_same]) hC2
  · rw [and_2k] at h13
    have hb : o.testBit i = true := by
      cases w : o.testBit i with
      | true => rfl
      | false => rw [w, if_neg (by decide)] at h13; exact absurd rfl h13
    refine ax_load (q := 17) rfl rfl rfl rfl rfl ?_
    refine ax_const (q := 18) (v := am_I 2) rfl rfl rfl ?_
    refine ax_callv (q := 21) rfl rfl rfl rfl rfl rfl ?_
    refine x_refuse (by omega) hC.kx.1 (fun σ1 hf1 g0 g1 gJ => ?_)
    refine ax_ret (r := some (am_I 0)) rfl ⟨rfl, Or.inl rfl⟩ ?_
    exact hN hb _ hf1 gJ ⟨by rw [g0]; exact (if_neg h3).symm, g1⟩

