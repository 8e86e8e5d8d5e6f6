theorem x_readsOpen {d : Nat} (hd : 5 ≤ d) {σ : am_S} {tp : Nat → Int} {n t p : Nat} (hC : RC_ tp n t p σ) (hki : kx_ tp n p = ((13 : Nat) : Int)) {o : Nat} (ho : σ.1 66 11 = (o : Int)) (ho9 : o < 2 ^ 21) {Q : Option am_V → am_S → Prop} (h1 : o.testBit 13 = true → ∀ σ', gx_ [t] [] [0, 1, 5, 6, 7, 9, 11] σ σ' → FX_ tp n (2, p) σ' → Q (some (am_I 0)) σ') (hk1 : o.testBit 13 = false → tks_ tp n (nxp_ tp n p) ≠ 2 → ∀ σ', gx_ [t] [] [0, 1, 5, 6, 7, 9, 11] σ σ' → FX_ tp n (2, nxp_ tp n p) σ' → Q (some (am_I 0)) σ') (hk2 : o.testBit 13 = false → tks_ tp n (nxp_ tp n p) = 2 → ¬ (1 ≤ tkn_ tp n (nxp_ tp n p) ∧ tkn_ tp n (nxp_ tp n p) ≤ 60) → ∀ σ', gx_ [t] [] [0, 1, 5, 6, 7, 9, 11] σ σ' → FX_ tp n (4, nxp_ tp n p) σ' → Q (some (am_I 0)) σ') (hk3 : o.testBit 13 = false → tks_ tp n (nxp_ tp n p) = 2 → 1 ≤ tkn_ tp n (nxp_ tp n p) → tkn_ tp n (nxp_ tp n p) ≤ 60 → kx_ tp n (nxp_ tp n (nxp_ tp n p)) ≠ 59 → ∀ σ', gx_ [t] [] [0, 1, 5, 6, 7, 9, 11] σ σ' → FX_ tp n (2, nxp_ tp n (nxp_ tp n p)) σ' → Q (some (am_I 0)) σ') (hY : o.testBit 13 = false → tks_ tp n (nxp_ tp n p) = 2 → 1 ≤ tkn_ tp n (nxp_ tp n p) → tkn_ tp n (nxp_ tp n p) ≤ 60 → kx_ tp n (nxp_ tp n (nxp_ tp n p)) = 59 → ∀ σ', gx_ [t] [] [0, 1, 5, 6, 7, 9, 11] σ σ' → σ'.1 t 10 = tkn_ tp n (nxp_ tp n p) → RC_ tp n t (nxp_ tp n (nxp_ tp n (nxp_ tp n p))) σ' → Q (some (am_I 1)) σ') : am_Ev d 49 [am_R 66] σ Q := by
  obtain ⟨d, rfl⟩ : ∃ e, d = e + 1 := ⟨d - 1, by omega⟩
  have ht := hC.ht
  refine ev_in (m := 49) (c := k_X4_readsOpen) (L := [some (am_R 66), none]) rfl rfl rfl rfl rfl rfl ?_
  refine ax_load (q := 1) rfl rfl rfl rfl rfl ?_
  refine ax_callv (q := 4) rfl rfl rfl rfl rfl rfl ?_
  refine x_takesOnce (by omega) hC (by decide) hki ho ho9 (fun hb σ1 hf1 gJ g0 => ?_) (fun hb σ2 hf2 h11 hC2 => ?_)
  · refine ax_if_ne (q := 7) (x := 9) rfl rfl (fun h => absurd h (by omega)) (fun h4 => ?_)
    refine ax_const (q := 8) (v := am_I 0) rfl rfl rfl ?_
    refine ax_ret (r := some (am_I 0)) rfl ⟨rfl, Or.inl rfl⟩ ?_
    exact h1 hb _ (gx_tr (gx_rf [] [] [] σ) hf1 (by intro x hx; simp at hx ⊢ <;> omega) (by intro x hx; simp at hx ⊢ <;> omega) (by intro x hx; simp at hx ⊢ <;> omega) (by intro x hx; simp at hx ⊢ <;> omega) (by intro x hx; simp at hx ⊢ <;> omega) (by intro x hx; simp at hx ⊢ <;> omega)) g0
  · refine ax_if_ne (q := 7) (x := 9) rfl rfl (fun h4 => ?_) (fun h => absurd h (by omega))
    refine ax_load (q := 10) rfl rfl rfl rfl rfl ?_
    refine ax_const (q := 11) (v := am_I 1) rfl rfl rfl ?_
    refine ax_const (q := 13) (v := am_I 60) rfl rfl rfl ?_
    refine ax_callv (q := 16) rfl rfl rfl rfl rfl rfl ?_
    refine x_number (by omega) hC2 (fun h2 σ3 hf3 gJ g0 => ?_) (fun h2 h4 σ4 hf4 gJ g0 => ?_) (fun h2 hx hy => ?_)
    · refine ax_store (q := 17) (L' := [some (am_R 66), some (am_I (-1))]) rfl rfl rfl rfl rfl rfl ?_
      refine ax_load (q := 18) rfl rfl rfl rfl rfl ?_
      refine ax_const (q := 19) (v := am_I (-1)) rfl rfl rfl ?_
      refine ax_icmp_ne (q := 22) (x := 24) rfl rfl (fun h => absurd rfl h) (fun h19 => ?_)
      refine ax_const (q := 23) (v := am_I 0) rfl rfl rfl ?_
      refine ax_ret (r := some (am_I 0)) rfl ⟨rfl, Or.inl rfl⟩ ?_
      exact hk1 hb h2 _ (gx_tr (gx_tr (gx_rf [] [] [] σ) hf2 (by intro x hx; simp at hx ⊢ <;> omega) (by intro x hx; simp at hx ⊢ <;> omega) (by intro x hx; simp at hx ⊢ <;> omega) (by intro x hx; simp at hx ⊢ <;> omega) (by intro x hx; simp at hx ⊢ <;> omega) (by intro x hx; simp at hx ⊢ <;> omega) : gx_ [t] [] [0, 1, 5, 6, 7, 9, 11] σ σ2) hf3 (by intro x hx; simp at hx ⊢ <;> omega) (by intro x hx; simp at hx ⊢ <;> omega) (by intro x hx; simp at hx ⊢ <;> omega) (by intro x hx; simp at hx ⊢ <;> omega) (by intro x hx; simp at hx ⊢ <;> omega) (by intro x hx; simp at hx ⊢ <;> omega)) g0
    · refine ax_store (q := 17) (L' := [some (am_R 66), some (am_I (-1))]) rfl rfl rfl rfl rfl rfl ?_
      refine ax_load (q := 18) rfl rfl rfl rfl rfl ?_
      refine ax_const (q := 19) (v := am_I (-1)) rfl rfl rfl ?_
      refine ax_icmp_ne (q := 22) (x := 24) rfl rfl (fun h => absurd rfl h) (fun h19 => ?_)
      refine ax_const (q := 23) (v := am_I 0) rfl rfl rfl ?_
      refine ax_ret (r := some (am_I 0)) rfl ⟨rfl, Or.inl rfl⟩ ?_
      exact hk2 hb h2 h4 _ (gx_tr (gx_tr (gx_rf [] [] [] σ) hf2 (by intro x hx; simp at hx ⊢ <;> omega) (by intro x hx; simp at hx ⊢ <;> omega) (by intro x hx; simp at hx ⊢ <;> omega) (by intro x hx; simp at hx ⊢ <;> omega) (by intro x hx; simp at hx ⊢ <;> omega) (by intro x hx; simp at hx ⊢ <;> omega) : gx_ [t] [] [0, 1, 5, 6, 7, 9, 11] σ σ2) hf4 (by intro x hx; simp at hx ⊢ <;> omega) (by intro x hx; simp at hx ⊢ <;> omega) (by intro x hx; simp at hx ⊢ <;> omega) (by intro x hx; simp at hx ⊢ <;> omega) (by intro x hx; simp at hx ⊢ <;> omega) (by intro x hx; simp at hx ⊢ <;> omega)) g0
    · refine ax_store (q := 17) (L' := [some (am_R 66), some (am_I (tkn_ tp n (nxp_ tp n p)))]) rfl rfl rfl rfl rfl rfl ?_
      refine ax_load (q := 18) rfl rfl rfl rfl rfl ?_
      refine ax_const (q := 19) (v := am_I (-1)) rfl rfl rfl ?_
      refine ax_icmp_ne (q := 22) (x := 24) rfl rfl (fun h19 => ?_) (fun h => absurd h (by omega))
      refine ax_load (q := 25) rfl rfl rfl rfl rfl ?_
      refine ax_getf (q := 28) (v := am_R t) rfl rfl (am_fgR rfl hC2.tn) ?_
      refine ax_load (q := 29) rfl rfl rfl rfl rfl ?_
      refine ax_putf (q := 32) rfl rfl (xp7_10 hC.ht) ?_
      refine ax_load (q := 33) rfl rfl rfl rfl rfl ?_
      refine ax_callv (q := 36) rfl rfl rfl rfl rfl rfl ?_
      obtain ⟨σ5, h5⟩ : ∃ u, u = (am_sI σ2 t (am_up (σ2.1 t) 10 (tkn_ tp n (nxp_ tp n p)))) := ⟨_, rfl⟩
      show am_Ev _ _ _ (am_sI σ2 t (am_up (σ2.1 t) 10 (tkn_ tp n (nxp_ tp n p)))) _
      rw [← h5]
      have hf5 : gx_ [t] [] [0, 1, 5, 6, 7, 9, 11] σ σ5 := by rw [h5]; exact gx_A (gx_tr (gx_rf [] [] [] σ) hf2 (by intro x hx; simp at hx ⊢ <;> omega) (by intro x hx; simp at hx ⊢ <;> omega) (by intro x hx; simp at hx ⊢ <;> omega) (by intro x hx; simp at hx ⊢ <;> omega) (by intro x hx; simp at hx ⊢ <;> omega) (by intro x hx; simp at hx ⊢ <;> omega)) (by simp) (by omega)
      have hw5 : gx_ [t] [] [] σ2 σ5 := by rw [h5]; exact gx_A (gx_rf _ _ _ _) (by simp) (by omega)
      have hC5 := hC2.fr hw5 (by simp <;> omega) (by simp) (by simp) (by rw [h5]; rfl)
      have v5 : σ5.1 t 10 = tkn_ tp n (nxp_ tp n p) := by rw [h5, sI_at, am_up_same]
      refine x_nextT (by omega) hC5 (fun e => by rw [h2] at e; exact absurd e (by decide)) (fun σ6 hf6 hC6 => ?_)
      refine ax_load (q := 37) rfl rfl rfl rfl rfl ?_
      refine ax_const (q := 39) (v := am_I 59) rfl rfl rfl ?_
      refine ax_callv (q := 42) rfl rfl rfl rfl rfl rfl ?_
      refine x_take (w := 59) (by omega) hC6 (by decide) (fun hk σ7 hf7 gJ g0 => ?_) (fun hk σ8 hf8 hC8 => ?_)
      · refine ax_ret (r := some (am_I 0)) rfl ⟨rfl, Or.inl rfl⟩ ?_
        exact hk3 hb h2 hx hy hk _ (gx_tr (gx_tr hf5 hf6 (by intro x hx; simp at hx ⊢ <;> omega) (by intro x hx; simp at hx ⊢ <;> omega) (by intro x hx; simp at hx ⊢ <;> omega) (by intro x hx; simp at hx ⊢ <;> omega) (by intro x hx; simp at hx ⊢ <;> omega) (by intro x hx; simp at hx ⊢ <;> omega) : gx_ [t] [] [0, 1, 5, 6, 7, 9, 11] σ σ6) hf7 (by intro x hx; simp at hx ⊢ <;> omega) (by intro x hx; simp at hx ⊢ <;> omega) (by intro x hx; simp at hx ⊢ <;> omega) (by intro x hx; simp at hx ⊢ <;> omega) (by intro x hx; simp at hx ⊢ <;> omega) (by intro x hx; simp at hx ⊢ <;> omega)) g0
      · refine ax_ret (r := some (am_I 1)) rfl ⟨rfl, Or.inr rfl⟩ ?_
        exact hY hb h2 hx hy hk _ (gx_tr (gx_tr hf5 hf6 (by intro x hx; simp at hx ⊢ <;> omega) (by intro x hx; simp at hx ⊢ <;> omega) (by intro x hx; simp at hx ⊢ <;> omega) (by intro x hx; simp at hx ⊢ <;> omega) (by intro x hx; simp at hx ⊢ <;> omega) (by intro x hx; simp at hx ⊢ <;> omega) : gx_ [t] [] [0, 1, 5, 6, 7, 9, 11] σ σ6) hf8 (by intro x hx; simp at hx ⊢ <;> omega) (by intro x hx; simp at hx ⊢ <;> omega) (by intro x hx; simp at hx ⊢ <;> omega) (by intro x hx; simp at hx ⊢ <;> omega) (by intro x hx; simp at hx ⊢ <;> omega) (by intro x hx; simp at hx ⊢ <;> omega)) (by rw [hf8.1 t (by simp) (by omega), hf6.1 t (by simp) (by omega)]; exact v5) hC8

theorem x_readsDraw {d : Nat} (hd : 5 ≤ d) {σ : am_S} {tp : Nat → Int} {n t p : Nat} (hC : RC_ tp n t p σ) (hki : kx_ tp n p = ((14 : Nat) : Int)) {o : Nat} (ho : σ.1 66 11 = (o : Int)) (ho9 : o < 2 ^ 21) {Q : Option am_V → am_S → Prop} (h1 : o.testBit 14 = true → ∀ σ', gx_ [t] [] [0, 1, 5, 6, 7, 9, 11] σ σ' → FX_ tp n (2, p) σ' → Q (some (am_I 0)) σ') (hk1 : o.testBit 14 = false → tks_ tp n (nxp_ tp n p) ≠ 2 → ∀ σ', gx_ [t] [] [0, 1, 5, 6, 7, 9, 11] σ σ' → FX_ tp n (2, nxp_ tp n p) σ' → Q (some (am_I 0)) σ') (hk2 : o.testBit 14 = false → tks_ tp n (nxp_ tp n p) = 2 → ¬ (0 ≤ tkn_ tp n (nxp_ tp n p) ∧ tkn_ tp n (nxp_ tp n p) ≤ 999) → ∀ σ', gx_ [t] [] [0, 1, 5, 6, 7, 9, 11] σ σ' → FX_ tp n (4, nxp_ tp n p) σ' → Q (some (am_I 0)) σ') (hk3 : o.testBit 14 = false → tks_ tp n (nxp_ tp n p) = 2 → 0 ≤ tkn_ tp n (nxp_ tp n p) → tkn_ tp n (nxp_ tp n p) ≤ 999 → kx_ tp n (nxp_ tp n (nxp_ tp n p)) ≠ 59 → ∀ σ', gx_ [t] [] [0, 1, 5, 6, 7, 9, 11] σ σ' → FX_ tp n (2, nxp_ tp n (nxp_ tp n p)) σ' → Q (some (am_I 0)) σ') (hY : o.testBit 14 = false → tks_ tp n (nxp_ tp n p) = 2 → 0 ≤ tkn_ tp n (nxp_ tp n p) → tkn_ tp n (nxp_ tp n p) ≤ 999 → kx_ tp n (nxp_ tp n (nxp_ tp n p)) = 59 → ∀ σ', gx_ [t] [] [0, 1, 5, 6, 7, 9, 11] σ σ' → σ'.1 t 11 = tkn_ tp n (nxp_ tp n p) → RC_ tp n t (nxp_ tp n (nxp_ tp n (nxp_ tp n p))) σ' → Q (some (am_I 1)) σ') : am_Ev d 50 [am_R 66] σ Q := by
  obtain ⟨d, rfl⟩ : ∃ e, d = e + 1 := ⟨d - 1, by omega⟩
  have ht := hC.ht
  refine ev_in (m := 50) (c := k_X4_readsDraw) (L := [some (am_R 66), none]) rfl rfl rfl rfl rfl rfl ?_
  refine ax_load (q := 1) rfl rfl rfl rfl rfl ?_
  refine ax_callv (q := 4) rfl rfl rfl rfl rfl rfl ?_
  refine x_takesOnce (by omega) hC (by decide) hki ho ho9 (fun hb σ1 hf1 gJ g0 => ?_) (fun hb σ2 hf2 h11 hC2 => ?_)
  · refine ax_if_ne (q := 7) (x := 9) rfl rfl (fun h => absurd h (by omega)) (fun h4 => ?_)
    refine ax_const (q := 8) (v := am_I 0) rfl rfl rfl ?_
    refine ax_ret (r := some (am_I 0)) rfl ⟨rfl, Or.inl rfl⟩ ?_
    exact h1 hb _ (gx_tr (gx_rf [] [] [] σ) hf1 (by intro x hx; simp at hx ⊢ <;> omega) (by intro x hx; simp at hx ⊢ <;> omega) (by intro x hx; simp at hx ⊢ <;> omega) (by intro x hx; simp at hx ⊢ <;> omega) (by intro x hx; simp at hx ⊢ <;> omega) (by intro x hx; simp at hx ⊢ <;> omega)) g0
  · refine ax_if_ne (q := 7) (x := 9) rfl rfl (fun h4 => ?_) (fun h => absurd h (by omega))
    refine ax_load (q := 10) rfl rfl rfl rfl rfl ?_
    refine ax_const (q := 11) (v := am_I 0) rfl rfl rfl ?_
    refine ax_const (q := 14) (v := am_I 999) rfl rfl rfl ?_
    refine ax_callv (q := 17) rfl rfl rfl rfl rfl rfl ?_
    refine x_number (by omega) hC2 (fun h2 σ3 hf3 gJ g0 => ?_) (fun h2 h4 σ4 hf4 gJ g0 => ?_) (fun h2 hx hy => ?_)
    · refine ax_store (q := 18) (L' := [some (am_R 66), some (am_I (-1))]) rfl rfl rfl rfl rfl rfl ?_
      refine ax_load (q := 19) rfl rfl rfl rfl rfl ?_
      refine ax_const (q := 20) (v := am_I (-1)) rfl rfl rfl ?_
      refine ax_icmp_ne (q := 23) (x := 25) rfl rfl (fun h => absurd rfl h) (fun h20 => ?_)
      refine ax_const (q := 24) (v := am_I 0) rfl rfl rfl ?_
      refine ax_ret (r := some (am_I 0)) rfl ⟨rfl, Or.inl rfl⟩ ?_
      exact hk1 hb h2 _ (gx_tr (gx_tr (gx_rf [] [] [] σ) hf2 (by intro x hx; simp at hx ⊢ <;> omega) (by intro x hx; simp at hx ⊢ <;> omega) (by intro x hx; simp at hx ⊢ <;> omega) (by intro x hx; simp at hx ⊢ <;> omega) (by intro x hx; simp at hx ⊢ <;> omega) (by intro x hx; simp at hx ⊢ <;> omega) : gx_ [t] [] [0, 1, 5, 6, 7, 9, 11] σ σ2) hf3 (by intro x hx; simp at hx ⊢ <;> omega) (by intro x hx; simp at hx ⊢ <;> omega) (by intro x hx; simp at hx ⊢ <;> omega) (by intro x hx; simp at hx ⊢ <;> omega) (by intro x hx; simp at hx ⊢ <;> omega) (by intro x hx; simp at hx ⊢ <;> omega)) g0
    · refine ax_store (q := 18) (L' := [some (am_R 66), some (am_I (-1))]) rfl rfl rfl rfl rfl rfl ?_
      refine ax_load (q := 19) rfl rfl rfl rfl rfl ?_
      refine ax_const (q := 20) (v := am_I (-1)) rfl rfl rfl ?_
      refine ax_icmp_ne (q := 23) (x := 25) rfl rfl (fun h => absurd rfl h) (fun h20 => ?_)
      refine ax_const (q := 24) (v := am_I 0) rfl rfl rfl ?_
      refine ax_ret (r := some (am_I 0)) rfl ⟨rfl, Or.inl rfl⟩ ?_
      exact hk2 hb h2 h4 _ (gx_tr (gx_tr (gx_rf [] [] [] σ) hf2 (by intro x hx; simp at hx ⊢ <;> omega) (by intro x hx; simp at hx ⊢ <;> omega) (by intro x hx; simp at hx ⊢ <;> omega) (by intro x hx; simp at hx ⊢ <;> omega) (by intro x hx; simp at hx ⊢ <;> omega) (by intro x hx; simp at hx ⊢ <;> omega) : gx_ [t] [] [0, 1, 5, 6, 7, 9, 11] σ σ2) hf4 (by intro x hx; simp at hx ⊢ <;> omega) (by intro x hx; simp at hx ⊢ <;> omega) (by intro x hx; simp at hx ⊢ <;> omega) (by intro x hx; simp at hx ⊢ <;> omega) (by intro x hx; simp at hx ⊢ <;> omega) (by intro x hx; simp at hx ⊢ <;> omega)) g0
    · refine ax_store (q := 18) (L' := [some (am_R 66), some (am_I (tkn_ tp n (nxp_ tp n p)))]) rfl rfl rfl rfl rfl rfl ?_
      refine ax_load (q := 19) rfl rfl rfl rfl rfl ?_
      refine ax_const (q := 20) (v := am_I (-1)) rfl rfl rfl ?_
      refine ax_icmp_ne (q := 23) (x := 25) rfl rfl (fun h20 => ?_) (fun h => absurd h (by omega))
      refine ax_load (q := 26) rfl rfl rfl rfl rfl ?_
      refine ax_getf (q := 29) (v := am_R t) rfl rfl (am_fgR rfl hC2.tn) ?_
      refine ax_load (q := 30) rfl rfl rfl rfl rfl ?_
      refine ax_putf (q := 33) rfl rfl (xp7_11 hC.ht) ?_
      refine ax_load (q := 34) rfl rfl rfl rfl rfl ?_
      refine ax_callv (q := 37) rfl rfl rfl rfl rfl rfl ?_
      obtain ⟨σ5, h5⟩ : ∃ u, u = (am_sI σ2 t (am_up (σ2.1 t) 11 (tkn_ tp n (nxp_ tp n p)))) := ⟨_, rfl⟩
      show am_Ev _ _ _ (am_sI σ2 t (am_up (σ2.1 t) 11 (tkn_ tp n (nxp_ tp n p)))) _
      rw [← h5]
      have hf5 : gx_ [t] [] [0, 1, 5, 6, 7, 9, 11] σ σ5 := by rw [h5]; exact gx_A (gx_tr (gx_rf [] [] [] σ) hf2 (by intro x hx; simp at hx ⊢ <;> omega) (by intro x hx; simp at hx ⊢ <;> omega) (by intro x hx; simp at hx ⊢ <;> omega) (by intro x hx; simp at hx ⊢ <;> omega) (by intro x hx; simp at hx ⊢ <;> omega) (by intro x hx; simp at hx ⊢ <;> omega)) (by simp) (by omega)
      have hw5 : gx_ [t] [] [] σ2 σ5 := by rw [h5]; exact gx_A (gx_rf _ _ _ _) (by simp) (by omega)
      have hC5 := hC2.fr hw5 (by simp <;> omega) (by simp) (by simp) (by rw [h5]; rfl)
      have v5 : σ5.1 t 11 = tkn_ tp n (nxp_ tp n p) := by rw [h5, sI_at, am_up_same]
      refine x_nextT (by omega) hC5 (fun e => by rw [h2] at e; exact absurd e (by decide)) (fun σ6 hf6 hC6 => ?_)
      refine ax_load (q := 38) rfl rfl rfl rfl rfl ?_
      refine ax_const (q := 40) (v := am_I 59) rfl rfl rfl ?_
      refine ax_callv (q := 43) rfl rfl rfl rfl rfl rfl ?_
      refine x_take (w := 59) (by omega) hC6 (by decide) (fun hk σ7 hf7 gJ g0 => ?_) (fun hk σ8 hf8 hC8 => ?_)
      · refine ax_ret (r := some (am_I 0)) rfl ⟨rfl, Or.inl rfl⟩ ?_
        exact hk3 hb h2 hx hy hk _ (gx_tr (gx_tr hf5 hf6 (by intro x hx; simp at hx ⊢ <;> omega) (by intro x hx; simp at hx ⊢ <;> omega) (by intro x hx; simp at hx ⊢ <;> omega) (by intro x hx; simp at hx ⊢ <;> omega) (by intro x hx; simp at hx ⊢ <;> omega) (by intro x hx; simp at hx ⊢ <;> omega) : gx_ [t] [] [0, 1, 5, 6, 7, 9, 11] σ σ6) hf7 (by intro x hx; simp at hx ⊢ <;> omega) (by intro x hx; simp at hx ⊢ <;> omega) (by intro x hx; simp at hx ⊢ <;> omega) (by intro x hx; simp at hx ⊢ <;> omega) (by intro x hx; simp at hx ⊢ <;> omega) (by intro x hx; simp at hx ⊢ <;> omega)) g0
      · refine ax_ret (r := some (am_I 1)) rfl ⟨rfl, Or.inr rfl⟩ ?_
        exact hY hb h2 hx hy hk _ (gx_tr (gx_tr hf5 hf6 (by intro x hx; simp at hx ⊢ <;> omega) (by intro x hx; simp at hx ⊢ <;> omega) (by intro x hx; simp at hx ⊢ <;> omega) (by intro x hx; simp at hx ⊢ <;> omega) (by intro x hx; simp at hx ⊢ <;> omega) (by intro x hx; simp at hx ⊢ <;> omega) : gx_ [t] [] [0, 1, 5, 6, 7, 9, 11] σ σ6) hf8 (by intro x hx; simp at hx ⊢ <;> omega) (by intro x hx; simp at hx ⊢ <;> omega) (by intro x hx; simp at hx ⊢ <;> omega) (by intro x hx; simp at hx ⊢ <;> omega) (by intro x hx; simp at hx ⊢ <;> omega) (by intro x hx; simp at hx ⊢ <;> omega)) (by rw [hf8.1 t (by simp) (by omega), hf6.1 t (by simp) (by omega)]; exact v5) hC8

