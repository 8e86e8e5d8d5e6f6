theorem PS_s5 {tp : Nat → Int} {n p : Nat} {σ : am_S} (h : PS_ tp n p σ) {k : Nat} {z : Int} (hk : k ∉ [4, 5, 6, 7, 8]) : PS_ tp n p (am_sI σ 135 (am_up (σ.1 135) k z)) := by
  have h4 : (4 : Nat) ≠ k := fun q => hk (by simp [← q])
  have h5 : (5 : Nat) ≠ k := fun q => hk (by simp [← q])
  have h6 : (6 : Nat) ≠ k := fun q => hk (by simp [← q])
  have h7 : (7 : Nat) ≠ k := fun q => hk (by simp [← q])
  have h8 : (8 : Nat) ≠ k := fun q => hk (by simp [← q])
  obtain ⟨⟨a1, a2, a3, a4, a5⟩, b1, b2, b3⟩ := h
  exact ⟨⟨by rw [sI_at, am_up_ne h4]; exact a1, by rw [sI_at, am_up_ne h6]; exact a2, by rw [sI_at, am_up_ne h7]; exact a3, by rw [sI_at, am_up_ne h8]; exact a4, a5⟩, by rw [sI_ne (by decide)]; exact b1, by rw [sI_at, am_up_ne h5]; exact b2, b3⟩

theorem r_readSkill {d : Nat} (hd : 4 ≤ d) {σ : am_S} {tp : Nat → Int} {n p : Nat} (hP : PS_ tp n p σ) (h02 : σ.1 135 2 = 0) {g : Nat → Int} (hg : σ.2.1 137 = g) {k : Nat} (hk : σ.1 135 43 = (k : Int)) (hk4 : k < 4) {Q : Option am_V → am_S → Prop} (hN : ∀ e, nwn_ tp n g 0 k p = Sum.inl e → ∀ σ', fp_ [] pf_ [] σ σ' → 0 < e.1 → FT_ tp n e σ' → Q none σ') (hY : ∀ p', nwn_ tp n g 0 k p = Sum.inr p' → ∀ σ', fp_ [] (43 :: pf_) [137] σ σ' → σ'.1 135 2 = 0 → PS_ tp n p' σ' → σ'.2.1 137 = am_up g (0 + k) (tkw_ tp n (nxp_ tp n p)) → σ'.1 135 43 = ((k + 1 : Nat) : Int) → Q none σ') : am_Ev d 174 [am_R 135] σ Q := by
  obtain ⟨d, rfl⟩ : ∃ e, d = e + 1 := ⟨d - 1, by omega⟩
  refine ev_in (m := 174) (c := k_X9_readSkill) (L := [some (am_R 135)]) rfl rfl rfl rfl rfl rfl ?_
  refine ax_load (q := 1) rfl rfl rfl rfl rfl ?_
  refine ax_const (q := 2) (v := am_I 0) rfl rfl rfl ?_
  refine ax_load (q := 3) rfl rfl rfl rfl rfl ?_
  refine ax_getf (q := 6) (v := am_I ((k : Nat) : Int)) rfl rfl (am_fg rfl hk) ?_
  refine ax_callv (q := 9) rfl rfl rfl rfl rfl rfl ?_
  refine r_newName (b := 0) (by omega) hP h02 hg (by omega) (fun e he σ1 hf1 h0 hF => ?_) (fun p2 he σ1 hf1 h21 hP1 hg1 => ?_)
  · refine ax_load (q := 10) rfl rfl rfl rfl rfl ?_
    refine ax_getf (q := 13) (v := am_I (σ1.1 135 2)) rfl rfl (rfl) ?_
    refine ax_if_ne (q := 16) (x := 26) rfl rfl (fun h13 => ?_) (fun h => absurd h (by have := FT_pos hF h0; omega))
    refine ax_ret (r := none) rfl rfl ?_
    exact hN e he σ1 hf1 h0 hF
  · refine ax_load (q := 10) rfl rfl rfl rfl rfl ?_
    refine ax_getf (q := 13) (v := am_I (σ1.1 135 2)) rfl rfl (rfl) ?_
    refine ax_if_ne (q := 16) (x := 26) rfl rfl (fun h => absurd h (by omega)) (fun h13 => ?_)
    refine ax_load (q := 17) rfl rfl rfl rfl rfl ?_
    refine ax_dup (q := 18) rfl rfl rfl ?_
    refine ax_getf (q := 21) (v := am_I ((k : Nat) : Int)) rfl rfl (am_fg rfl (by rw [hf1.2.1 43 (by decide)]; exact hk)) ?_
    refine ax_const (q := 22) (v := am_I 1) rfl rfl rfl ?_
    refine ax_iadd (q := 23) (z := ((k + 1 : Nat) : Int)) rfl rfl (am_we (by omega) (by omega) (by omega)) ?_
    refine ax_putf (q := 26) rfl rfl rfl ?_
    refine ax_ret (r := none) rfl rfl ?_
    exact hY p2 he _ (fp_s5 (fp_tr (fp_rf _ _ _ _) hf1 (by decide) (by decide) (by decide)) (by decide)) (by rw [sI_at, am_up_ne (by decide)]; exact h21) (PS_s5 hP1 (by decide)) hg1 (by rw [sI_at, am_up_same])

