theorem x_readsTrait3 {d : Nat} (hd : 4 ≤ d) {σ : am_S} {tp : Nat → Int} {n t p : Nat} (hC : RC_ tp n t p σ) {k : Nat} (hk : σ.1 (t + 1) 2 = ((k + 1 : Nat) : Int)) (hk8 : k < 8) {Q : Option am_V → am_S → Prop} (hN : ∀ e, opt_ tp n 1936023916 0 9 0 p = Sum.inl e → ∀ σ', gx_ [t + 10] [] [0, 1, 5, 6, 7, 9] σ σ' → FX_ tp n e σ' → Q (some (am_I 0)) σ') (hY : ∀ v p', opt_ tp n 1936023916 0 9 0 p = Sum.inr (v, p') → ∀ σ', gx_ [t + 10] [] [5, 6, 7, 9] σ σ' → σ'.1 (t + 10) = am_up (σ.1 (t + 10)) k v → RC_ tp n t p' σ' → Q (some (am_I 1)) σ') : am_Ev d 44 [am_R 66, am_I 3, am_I 2, am_I 0] σ Q := by
  obtain ⟨d, rfl⟩ : ∃ e, d = e + 1 := ⟨d - 1, by omega⟩
  have ht := hC.ht
  refine ev_in (m := 44) (c := k_X4_readsTrait) (L := [some (am_R 66), some (am_I 3), some (am_I 2), some (am_I 0), none, none]) rfl rfl rfl rfl rfl rfl ?_
  refine ax_load (q := 1) rfl rfl rfl rfl rfl ?_
  refine ax_getf (q := 4) (v := am_R t) rfl rfl (am_fgR rfl hC.tn) ?_
  refine ax_getf (q := 7) (v := am_R (t + 1)) rfl rfl (xg7_0 hC.ht) ?_
  refine ax_const (q := 8) (v := am_I 2) rfl rfl rfl ?_
  refine bx_iald (q := 9) (k := 2) (z := ((k + 1 : Nat) : Int)) rfl rfl (kd_1 hC.ht) (by omega) (by omega) (hk) ?_
  refine ax_const (q := 10) (v := am_I 1) rfl rfl rfl ?_
  refine ax_isub (q := 11) (z := ((k : Nat) : Int)) rfl rfl (am_we (by omega) (by omega) (by omega)) ?_
  refine ax_store (q := 13) (L' := [some (am_R 66), some (am_I 3), some (am_I 2), some (am_I 0), some (am_I ((k : Nat) : Int)), none]) rfl rfl rfl rfl rfl rfl ?_
  refine ax_load (q := 14) rfl rfl rfl rfl rfl ?_
  refine ax_getf (q := 17) (v := am_R t) rfl rfl (am_fgR rfl hC.tn) ?_
  refine ax_getf (q := 20) (v := am_R (t + 7)) rfl rfl (xg7_2 hC.ht) ?_
  refine ax_load (q := 21) rfl rfl rfl rfl rfl ?_
  refine bx_aald (q := 22) (k := 2) (z := t + 10) rfl rfl (Or.inl (kd_7 hC.ht)) (by omega) (by omega) (by omega) ?_
  refine ax_load (q := 24) rfl rfl rfl rfl rfl ?_
  refine ax_load (q := 25) rfl rfl rfl rfl rfl ?_
  refine bx_iast (q := 26) (k := k) rfl rfl (kd_10 hC.ht) (by omega) (by omega) ?_
  obtain ⟨σ1, h1⟩ : ∃ u, u = (am_sI σ (t + 10) (am_up (σ.1 (t + 10)) k 0)) := ⟨_, rfl⟩
  rw [← h1]
  have hf1 : gx_ [t + 10] [] [5, 6, 7, 9] σ σ1 := by rw [h1]; exact gx_A (gx_rf _ _ _ σ) (by simp) (by omega)
  have hC1 := hC.fr (A := [t + 10]) (B := []) (K := []) (show gx_ [t + 10] [] [] σ σ1 from by rw [h1]; exact gx_A (gx_rf _ _ _ σ) (by simp) (by omega)) (by simp <;> omega) (by simp) (by simp) (by rw [h1]; rfl)
  have v1 : σ1.1 (t + 10) = am_up (σ.1 (t + 10)) k 0 := by rw [h1, sI_at]
  have hk1 : σ1.1 (t + 1) 2 = ((k + 1 : Nat) : Int) := by rw [hf1.1 (t + 1) (by simp) (by omega)]; exact hk
  refine ax_load (q := 27) rfl rfl rfl rfl rfl ?_
  refine ax_getf (q := 30) (v := am_I (kx_ tp n p)) rfl rfl (am_fg rfl hC1.kx.2.1) ?_
  refine ax_load (q := 31) rfl rfl rfl rfl rfl ?_
  refine ax_icmp_eq (q := 34) (x := 36) rfl rfl (fun h31 => ?_) (fun h31 => ?_)
  · refine ax_load (q := 37) rfl rfl rfl rfl rfl ?_
    refine ax_callv (q := 40) rfl rfl rfl rfl rfl rfl ?_
    have hw := (kx_w (i := 3) (by omega)).mp h31
    refine x_nextT (by omega) hC1 (fun e => by rw [hw.1] at e; exact absurd e (by decide)) (fun σ2 hf2 hC2 => ?_)
    have hf02 : gx_ [t + 10] [] [5, 6, 7, 9] σ σ2 := gx_tr hf1 hf2 (by intro x hx; simp at hx ⊢ <;> omega) (by intro x hx; simp at hx ⊢ <;> omega) (by intro x hx; simp at hx ⊢ <;> omega) (by intro x hx; simp at hx ⊢ <;> omega) (by intro x hx; simp at hx ⊢ <;> omega) (by intro x hx; simp at hx ⊢ <;> omega)
    refine ax_load (q := 41) rfl rfl rfl rfl rfl ?_
    refine ax_load (q := 42) rfl rfl rfl rfl rfl ?_
    refine ax_const (q := 44) (v := am_I 9) rfl rfl rfl ?_
    refine ax_callv (q := 47) rfl rfl rfl rfl rfl rfl ?_
    refine x_number (by omega) hC2 (fun h2 σ3 hf3 gJ g0 => ?_) (fun h2 h4 σ4 hf4 gJ g0 => ?_) (fun h2 hx hy => ?_)
    · refine ax_store (q := 49) (L' := [some (am_R 66), some (am_I 3), some (am_I 2), some (am_I 0), some (am_I ((k : Nat) : Int)), some (am_I (-1))]) rfl rfl rfl rfl rfl rfl ?_
      refine ax_load (q := 51) rfl rfl rfl rfl rfl ?_
      refine ax_const (q := 52) (v := am_I (-1)) rfl rfl rfl ?_
      refine ax_icmp_ne (q := 55) (x := 57) rfl rfl (fun h => absurd rfl h) (fun h52 => ?_)
      refine ax_const (q := 56) (v := am_I 0) rfl rfl rfl ?_
      refine ax_ret (r := some (am_I 0)) rfl ⟨rfl, Or.inl rfl⟩ ?_
      exact hN _ (by unfold opt_; rw [if_pos (show tks_ tp n p = 1 ∧ tkw_ tp n p = 1936023916 from hw)]; unfold num_; rw [if_pos h2]) _ (gx_tr hf02 hf3 (by intro x hx; simp at hx ⊢ <;> omega) (by intro x hx; simp at hx ⊢ <;> omega) (by intro x hx; simp at hx ⊢ <;> omega) (by intro x hx; simp at hx ⊢ <;> omega) (by intro x hx; simp at hx ⊢ <;> omega) (by intro x hx; simp at hx ⊢ <;> omega)) g0
    · refine ax_store (q := 49) (L' := [some (am_R 66), some (am_I 3), some (am_I 2), some (am_I 0), some (am_I ((k : Nat) : Int)), some (am_I (-1))]) rfl rfl rfl rfl rfl rfl ?_
      refine ax_load (q := 51) rfl rfl rfl rfl rfl ?_
      refine ax_const (q := 52) (v := am_I (-1)) rfl rfl rfl ?_
      refine ax_icmp_ne (q := 55) (x := 57) rfl rfl (fun h => absurd rfl h) (fun h52 => ?_)
      refine ax_const (q := 56) (v := am_I 0) rfl rfl rfl ?_
      refine ax_ret (r := some (am_I 0)) rfl ⟨rfl, Or.inl rfl⟩ ?_
      exact hN _ (by unfold opt_; rw [if_pos (show tks_ tp n p = 1 ∧ tkw_ tp n p = 1936023916 from hw)]; unfold num_; rw [if_neg (fun e => e h2), if_neg h4]) _ (gx_tr hf02 hf4 (by intro x hx; simp at hx ⊢ <;> omega) (by intro x hx; simp at hx ⊢ <;> omega) (by intro x hx; simp at hx ⊢ <;> omega) (by intro x hx; simp at hx ⊢ <;> omega) (by intro x hx; simp at hx ⊢ <;> omega) (by intro x hx; simp at hx ⊢ <;> omega)) g0
    · refine ax_store (q := 49) (L' := [some (am_R 66), some (am_I 3), some (am_I 2), some (am_I 0), some (am_I ((k : Nat) : Int)), some (am_I (tkn_ tp n (nxp_ tp n p)))]) rfl rfl rfl rfl rfl rfl ?_
      refine ax_load (q := 51) rfl rfl rfl rfl rfl ?_
      refine ax_const (q := 52) (v := am_I (-1)) rfl rfl rfl ?_
      refine ax_icmp_ne (q := 55) (x := 57) rfl rfl (fun h52 => ?_) (fun h => absurd h (by omega))
      refine ax_load (q := 58) rfl rfl rfl rfl rfl ?_
      refine ax_getf (q := 61) (v := am_R t) rfl rfl (am_fgR rfl hC2.tn) ?_
      refine ax_getf (q := 64) (v := am_R (t + 7)) rfl rfl (xg7_2 hC.ht) ?_
      refine ax_load (q := 65) rfl rfl rfl rfl rfl ?_
      refine bx_aald (q := 66) (k := 2) (z := t + 10) rfl rfl (Or.inl (kd_7 hC.ht)) (by omega) (by omega) (by omega) ?_
      refine ax_load (q := 68) rfl rfl rfl rfl rfl ?_
      refine ax_load (q := 70) rfl rfl rfl rfl rfl ?_
      refine bx_iast (q := 71) (k := k) rfl rfl (kd_10 hC.ht) (by omega) (by omega) ?_
      refine ax_load (q := 72) rfl rfl rfl rfl rfl ?_
      refine ax_callv (q := 75) rfl rfl rfl rfl rfl rfl ?_
      obtain ⟨σ5, h5⟩ : ∃ u, u = (am_sI σ2 (t + 10) (am_up (σ2.1 (t + 10)) k (tkn_ tp n (nxp_ tp n p)))) := ⟨_, rfl⟩
      show am_Ev _ _ _ (am_sI σ2 (t + 10) (am_up (σ2.1 (t + 10)) k (tkn_ tp n (nxp_ tp n p)))) _
      rw [← h5]
      have hg5 : gx_ [t + 10] [] [] σ2 σ5 := by rw [h5]; exact gx_A (gx_rf _ _ _ _) (by simp) (by omega)
      have hf5 : gx_ [t + 10] [] [5, 6, 7, 9] σ σ5 := gx_tr hf02 hg5 (by intro x hx; simp at hx ⊢ <;> omega) (by intro x hx; simp at hx ⊢ <;> omega) (by intro x hx; simp at hx ⊢ <;> omega) (by intro x hx; simp at hx ⊢ <;> omega) (by intro x hx; simp at hx ⊢ <;> omega) (by intro x hx; simp at hx ⊢ <;> omega)
      have hC5 := hC2.fr hg5 (by simp <;> omega) (by simp) (by simp) (by rw [h5]; rfl)
      have v5 : σ5.1 (t + 10) = am_up (σ.1 (t + 10)) k (tkn_ tp n (nxp_ tp n p)) := by rw [h5, sI_at, hf2.1 _ (by simp) (by omega), v1, up_up]
      refine x_nextT (by omega) hC5 (fun e => by rw [h2] at e; exact absurd e (by decide)) (fun σ6 hf6 hC6 => ?_)
      refine ax_const (q := 76) (v := am_I 1) rfl rfl rfl ?_
      refine ax_ret (r := some (am_I 1)) rfl ⟨rfl, Or.inr rfl⟩ ?_
      exact hY _ _ (by unfold opt_; rw [if_pos (show tks_ tp n p = 1 ∧ tkw_ tp n p = 1936023916 from hw)]; unfold num_; rw [if_neg (fun e => e h2), if_pos ⟨hx, hy⟩]) _ (gx_tr hf5 hf6 (by intro x hx; simp at hx ⊢ <;> omega) (by intro x hx; simp at hx ⊢ <;> omega) (by intro x hx; simp at hx ⊢ <;> omega) (by intro x hx; simp at hx ⊢ <;> omega) (by intro x hx; simp at hx ⊢ <;> omega) (by intro x hx; simp at hx ⊢ <;> omega)) (by rw [hf6.1 _ (by simp) (by omega)]; exact v5) hC6
  · refine ax_const (q := 35) (v := am_I 1) rfl rfl rfl ?_
    refine ax_ret (r := some (am_I 1)) rfl ⟨rfl, Or.inr rfl⟩ ?_
    exact hY _ _ (if_neg (fun e : tks_ tp n p = 1 ∧ tkw_ tp n p = 1936023916 => h31 ((kx_w (i := 3) (by omega)).mpr e))) _ hf1 v1 hC1

theorem x_readsTrait4 {d : Nat} (hd : 4 ≤ d) {σ : am_S} {tp : Nat → Int} {n t p : Nat} (hC : RC_ tp n t p σ) {k : Nat} (hk : σ.1 (t + 1) 2 = ((k + 1 : Nat) : Int)) (hk8 : k < 8) {Q : Option am_V → am_S → Prop} (hN : ∀ e, opt_ tp n 131277443786868 0 9 0 p = Sum.inl e → ∀ σ', gx_ [t + 11] [] [0, 1, 5, 6, 7, 9] σ σ' → FX_ tp n e σ' → Q (some (am_I 0)) σ') (hY : ∀ v p', opt_ tp n 131277443786868 0 9 0 p = Sum.inr (v, p') → ∀ σ', gx_ [t + 11] [] [5, 6, 7, 9] σ σ' → σ'.1 (t + 11) = am_up (σ.1 (t + 11)) k v → RC_ tp n t p' σ' → Q (some (am_I 1)) σ') : am_Ev d 44 [am_R 66, am_I 4, am_I 3, am_I 0] σ Q := by
  obtain ⟨d, rfl⟩ : ∃ e, d = e + 1 := ⟨d - 1, by omega⟩
  have ht := hC.ht
  refine ev_in (m := 44) (c := k_X4_readsTrait) (L := [some (am_R 66), some (am_I 4), some (am_I 3), some (am_I 0), none, none]) rfl rfl rfl rfl rfl rfl ?_
  refine ax_load (q := 1) rfl rfl rfl rfl rfl ?_
  refine ax_getf (q := 4) (v := am_R t) rfl rfl (am_fgR rfl hC.tn) ?_
  refine ax_getf (q := 7) (v := am_R (t + 1)) rfl rfl (xg7_0 hC.ht) ?_
  refine ax_const (q := 8) (v := am_I 2) rfl rfl rfl ?_
  refine bx_iald (q := 9) (k := 2) (z := ((k + 1 : Nat) : Int)) rfl rfl (kd_1 hC.ht) (by omega) (by omega) (hk) ?_
  refine ax_const (q := 10) (v := am_I 1) rfl rfl rfl ?_
  refine ax_isub (q := 11) (z := ((k : Nat) : Int)) rfl rfl (am_we (by omega) (by omega) (by omega)) ?_
  refine ax_store (q := 13) (L' := [some (am_R 66), some (am_I 4), some (am_I 3), some (am_I 0), some (am_I ((k : Nat) : Int)), none]) rfl rfl rfl rfl rfl rfl ?_
  refine ax_load (q := 14) rfl rfl rfl rfl rfl ?_
  refine ax_getf (q := 17) (v := am_R t) rfl rfl (am_fgR rfl hC.tn) ?_
  refine ax_getf (q := 20) (v := am_R (t + 7)) rfl rfl (xg7_2 hC.ht) ?_
  refine ax_load (q := 21) rfl rfl rfl rfl rfl ?_
  refine bx_aald (q := 22) (k := 3) (z := t + 11) rfl rfl (Or.inl (kd_7 hC.ht)) (by omega) (by omega) (by omega) ?_
  refine ax_load (q := 24) rfl rfl rfl rfl rfl ?_
  refine ax_load (q := 25) rfl rfl rfl rfl rfl ?_
  refine bx_iast (q := 26) (k := k) rfl rfl (kd_11 hC.ht) (by omega) (by omega) ?_
  obtain ⟨σ1, h1⟩ : ∃ u, u = (am_sI σ (t + 11) (am_up (σ.1 (t + 11)) k 0)) := ⟨_, rfl⟩
  rw [← h1]
  have hf1 : gx_ [t + 11] [] [5, 6, 7, 9] σ σ1 := by rw [h1]; exact gx_A (gx_rf _ _ _ σ) (by simp) (by omega)
  have hC1 := hC.fr (A := [t + 11]) (B := []) (K := []) (show gx_ [t + 11] [] [] σ σ1 from by rw [h1]; exact gx_A (gx_rf _ _ _ σ) (by simp) (by omega)) (by simp <;> omega) (by simp) (by simp) (by rw [h1]; rfl)
  have v1 : σ1.1 (t + 11) = am_up (σ.1 (t + 11)) k 0 := by rw [h1, sI_at]
  have hk1 : σ1.1 (t + 1) 2 = ((k + 1 : Nat) : Int) := by rw [hf1.1 (t + 1) (by simp) (by omega)]; exact hk
  refine ax_load (q := 27) rfl rfl rfl rfl rfl ?_
  refine ax_getf (q := 30) (v := am_I (kx_ tp n p)) rfl rfl (am_fg rfl hC1.kx.2.1) ?_
  refine ax_load (q := 31) rfl rfl rfl rfl rfl ?_
  refine ax_icmp_eq (q := 34) (x := 36) rfl rfl (fun h31 => ?_) (fun h31 => ?_)
  · refine ax_load (q := 37) rfl rfl rfl rfl rfl ?_
    refine ax_callv (q := 40) rfl rfl rfl rfl rfl rfl ?_
    have hw := (kx_w (i := 4) (by omega)).mp h31
    refine x_nextT (by omega) hC1 (fun e => by rw [hw.1] at e; exact absurd e (by decide)) (fun σ2 hf2 hC2 => ?_)
    have hf02 : gx_ [t + 11] [] [5, 6, 7, 9] σ σ2 := gx_tr hf1 hf2 (by intro x hx; simp at hx ⊢ <;> omega) (by intro x hx; simp at hx ⊢ <;> omega) (by intro x hx; simp at hx ⊢ <;> omega) (by intro x hx; simp at hx ⊢ <;> omega) (by intro x hx; simp at hx ⊢ <;> omega) (by intro x hx; simp at hx ⊢ <;> omega)
    refine ax_load (q := 41) rfl rfl rfl rfl rfl ?_
    refine ax_load (q := 42) rfl rfl rfl rfl rfl ?_
    refine ax_const (q := 44) (v := am_I 9) rfl rfl rfl ?_
    refine ax_callv (q := 47) rfl rfl rfl rfl rfl rfl ?_
    refine x_number (by omega) hC2 (fun h2 σ3 hf3 gJ g0 => ?_) (fun h2 h4 σ4 hf4 gJ g0 => ?_) (fun h2 hx hy => ?_)
    · refine ax_store (q := 49) (L' := [some (am_R 66), some (am_I 4), some (am_I 3), some (am_I 0), some (am_I ((k : Nat) : Int)), some (am_I (-1))]) rfl rfl rfl rfl rfl rfl ?_
      refine ax_load (q := 51) rfl rfl rfl rfl rfl ?_
      refine ax_const (q := 52) (v := am_I (-1)) rfl rfl rfl ?_
      refine ax_icmp_ne (q := 55) (x := 57) rfl rfl (fun h => absurd rfl h) (fun h52 => ?_)
      refine ax_const (q := 56) (v := am_I 0) rfl rfl rfl ?_
      refine ax_ret (r := some (am_I 0)) rfl ⟨rfl, Or.inl rfl⟩ ?_
      exact hN _ (by unfold opt_; rw [if_pos (show tks_ tp n p = 1 ∧ tkw_ tp n p = 131277443786868 from hw)]; unfold num_; rw [if_pos h2]) _ (gx_tr hf02 hf3 (by intro x hx; simp at hx ⊢ <;> omega) (by intro x hx; simp at hx ⊢ <;> omega) (by intro x hx; simp at hx ⊢ <;> omega) (by intro x hx; simp at hx ⊢ <;> omega) (by intro x hx; simp at hx ⊢ <;> omega) (by intro x hx; simp at hx ⊢ <;> omega)) g0
    · refine ax_store (q := 49) (L' := [some (am_R 66), some (am_I 4), some (am_I 3), some (am_I 0), some (am_I ((k : Nat) : Int)), some (am_I (-1))]) rfl rfl rfl rfl rfl rfl ?_
      refine ax_load (q := 51) rfl rfl rfl rfl rfl ?_
      refine ax_const (q := 52) (v := am_I (-1)) rfl rfl rfl ?_
      refine ax_icmp_ne (q := 55) (x := 57) rfl rfl (fun h => absurd rfl h) (fun h52 => ?_)
      refine ax_const (q := 56) (v := am_I 0) rfl rfl rfl ?_
      refine ax_ret (r := some (am_I 0)) rfl ⟨rfl, Or.inl rfl⟩ ?_
      exact hN _ (by unfold opt_; rw [if_pos (show tks_ tp n p = 1 ∧ tkw_ tp n p = 131277443786868 from hw)]; unfold num_; rw [if_neg (fun e => e h2), if_neg h4]) _ (gx_tr hf02 hf4 (by intro x hx; simp at hx ⊢ <;> omega) (by intro x hx; simp at hx ⊢ <;> omega) (by intro x hx; simp at hx ⊢ <;> omega) (by intro x hx; simp at hx ⊢ <;> omega) (by intro x hx; simp at hx ⊢ <;> omega) (by intro x hx; simp at hx ⊢ <;> omega)) g0
    · refine ax_store (q := 49) (L' := [some (am_R 66), some (am_I 4), some (am_I 3), some (am_I 0), some (am_I ((k : Nat) : Int)), some (am_I (tkn_ tp n (nxp_ tp n p)))]) rfl rfl rfl rfl rfl rfl ?_
      refine ax_load (q := 51) rfl rfl rfl rfl rfl ?_
      refine ax_const (q := 52) (v := am_I (-1)) rfl rfl rfl ?_
      refine ax_icmp_ne (q := 55) (x := 57) rfl rfl (fun h52 => ?_) (fun h => absurd h (by omega))
      refine ax_load (q := 58) rfl rfl rfl rfl rfl ?_
      refine ax_getf (q := 61) (v := am_R t) rfl rfl (am_fgR rfl hC2.tn) ?_
      refine ax_getf (q := 64) (v := am_R (t + 7)) rfl rfl (xg7_2 hC.ht) ?_
      refine ax_load (q := 65) rfl rfl rfl rfl rfl ?_
      refine bx_aald (q := 66) (k := 3) (z := t + 11) rfl rfl (Or.inl (kd_7 hC.ht)) (by omega) (by omega) (by omega) ?_
      refine ax_load (q := 68) rfl rfl rfl rfl rfl ?_
      refine ax_load (q := 70) rfl rfl rfl rfl rfl ?_
      refine bx_iast (q := 71) (k := k) rfl rfl (kd_11 hC.ht) (by omega) (by omega) ?_
      refine ax_load (q := 72) rfl rfl rfl rfl rfl ?_
      refine ax_callv (q := 75) rfl rfl rfl rfl rfl rfl ?_
      obtain ⟨σ5, h5⟩ : ∃ u, u = (am_sI σ2 (t + 11) (am_up (σ2.1 (t + 11)) k (tkn_ tp n (nxp_ tp n p)))) := ⟨_, rfl⟩
      show am_Ev _ _ _ (am_sI σ2 (t + 11) (am_up (σ2.1 (t + 11)) k (tkn_ tp n (nxp_ tp n p)))) _
      rw [← h5]
      have hg5 : gx_ [t + 11] [] [] σ2 σ5 := by rw [h5]; exact gx_A (gx_rf _ _ _ _) (by simp) (by omega)
      have hf5 : gx_ [t + 11] [] [5, 6, 7, 9] σ σ5 := gx_tr hf02 hg5 (by intro x hx; simp at hx ⊢ <;> omega) (by intro x hx; simp at hx ⊢ <;> omega) (by intro x hx; simp at hx ⊢ <;> omega) (by intro x hx; simp at hx ⊢ <;> omega) (by intro x hx; simp at hx ⊢ <;> omega) (by intro x hx; simp at hx ⊢ <;> omega)
      have hC5 := hC2.fr hg5 (by simp <;> omega) (by simp) (by simp) (by rw [h5]; rfl)
      have v5 : σ5.1 (t + 11) = am_up (σ.1 (t + 11)) k (tkn_ tp n (nxp_ tp n p)) := by rw [h5, sI_at, hf2.1 _ (by simp) (by omega), v1, up_up]
      refine x_nextT (by omega) hC5 (fun e => by rw [h2] at e; exact absurd e (by decide)) (fun σ6 hf6 hC6 => ?_)
      refine ax_const (q := 76) (v := am_I 1) rfl rfl rfl ?_
      refine ax_ret (r := some (am_I 1)) rfl ⟨rfl, Or.inr rfl⟩ ?_
      exact hY _ _ (by unfold opt_; rw [if_pos (show tks_ tp n p = 1 ∧ tkw_ tp n p = 131277443786868 from hw)]; unfold num_; rw [if_neg (fun e => e h2), if_pos ⟨hx, hy⟩]) _ (gx_tr hf5 hf6 (by intro x hx; simp at hx ⊢ <;> omega) (by intro x hx; simp at hx ⊢ <;> omega) (by intro x hx; simp at hx ⊢ <;> omega) (by intro x hx; simp at hx ⊢ <;> omega) (by intro x hx; simp at hx ⊢ <;> omega) (by intro x hx; simp at hx ⊢ <;> omega)) (by rw [hf6.1 _ (by simp) (by omega)]; exact v5) hC6
  · refine ax_const (q := 35) (v := am_I 1) rfl rfl rfl ?_
    refine ax_ret (r := some (am_I 1)) rfl ⟨rfl, Or.inr rfl⟩ ?_
    exact hY _ _ (if_neg (fun e : tks_ tp n p = 1 ∧ tkw_ tp n p = 131277443786868 => h31 ((kx_w (i := 4) (by omega)).mpr e))) _ hf1 v1 hC1

theorem x_readsTrait5 {d : Nat} (hd : 4 ≤ d) {σ : am_S} {tp : Nat → Int} {n t p : Nat} (hC : RC_ tp n t p σ) {k : Nat} (hk : σ.1 (t + 1) 2 = ((k + 1 : Nat) : Int)) (hk8 : k < 8) {Q : Option am_V → am_S → Prop} (hN : ∀ e, opt_ tp n 512970880104 1 9 1 p = Sum.inl e → ∀ σ', gx_ [t + 12] [] [0, 1, 5, 6, 7, 9] σ σ' → FX_ tp n e σ' → Q (some (am_I 0)) σ') (hY : ∀ v p', opt_ tp n 512970880104 1 9 1 p = Sum.inr (v, p') → ∀ σ', gx_ [t + 12] [] [5, 6, 7, 9] σ σ' → σ'.1 (t + 12) = am_up (σ.1 (t + 12)) k v → RC_ tp n t p' σ' → Q (some (am_I 1)) σ') : am_Ev d 44 [am_R 66, am_I 5, am_I 4, am_I 1] σ Q := by
  obtain ⟨d, rfl⟩ : ∃ e, d = e + 1 := ⟨d - 1, by omega⟩
  have ht := hC.ht
  refine ev_in (m := 44) (c := k_X4_readsTrait) (L := [some (am_R 66), some (am_I 5), some (am_I 4), some (am_I 1), none, none]) rfl rfl rfl rfl rfl rfl ?_
  refine ax_load (q := 1) rfl rfl rfl rfl rfl ?_
  refine ax_getf (q := 4) (v := am_R t) rfl rfl (am_fgR rfl hC.tn) ?_
  refine ax_getf (q := 7) (v := am_R (t + 1)) rfl rfl (xg7_0 hC.ht) ?_
  refine ax_const (q := 8) (v := am_I 2) rfl rfl rfl ?_
  refine bx_iald (q := 9) (k := 2) (z := ((k + 1 : Nat) : Int)) rfl rfl (kd_1 hC.ht) (by omega) (by omega) (hk) ?_
  refine ax_const (q := 10) (v := am_I 1) rfl rfl rfl ?_
  refine ax_isub (q := 11) (z := ((k : Nat) : Int)) rfl rfl (am_we (by omega) (by omega) (by omega)) ?_
  refine ax_store (q := 13) (L' := [some (am_R 66), some (am_I 5), some (am_I 4), some (am_I 1), some (am_I ((k : Nat) : Int)), none]) rfl rfl rfl rfl rfl rfl ?_
  refine ax_load (q := 14) rfl rfl rfl rfl rfl ?_
  refine ax_getf (q := 17) (v := am_R t) rfl rfl (am_fgR rfl hC.tn) ?_
  refine ax_getf (q := 20) (v := am_R (t + 7)) rfl rfl (xg7_2 hC.ht) ?_
  refine ax_load (q := 21) rfl rfl rfl rfl rfl ?_
  refine bx_aald (q := 22) (k := 4) (z := t + 12) rfl rfl (Or.inl (kd_7 hC.ht)) (by omega) (by omega) (by omega) ?_
  refine ax_load (q := 24) rfl rfl rfl rfl rfl ?_
  refine ax_load (q := 25) rfl rfl rfl rfl rfl ?_
  refine bx_iast (q := 26) (k := k) rfl rfl (kd_12 hC.ht) (by omega) (by omega) ?_
  obtain ⟨σ1, h1⟩ : ∃ u, u = (am_sI σ (t + 12) (am_up (σ.1 (t + 12)) k 1)) := ⟨_, rfl⟩
  rw [← h1]
  have hf1 : gx_ [t + 12] [] [5, 6, 7, 9] σ σ1 := by rw [h1]; exact gx_A (gx_rf _ _ _ σ) (by simp) (by omega)
  have hC1 := hC.fr (A := [t + 12]) (B := []) (K := []) (show gx_ [t + 12] [] [] σ σ1 from by rw [h1]; exact gx_A (gx_rf _ _ _ σ) (by simp) (by omega)) (by simp <;> omega) (by simp) (by simp) (by rw [h1]; rfl)
  have v1 : σ1.1 (t + 12) = am_up (σ.1 (t + 12)) k 1 := by rw [h1, sI_at]
  have hk1 : σ1.1 (t + 1) 2 = ((k + 1 : Nat) : Int) := by rw [hf1.1 (t + 1) (by simp) (by omega)]; exact hk
  refine ax_load (q := 27) rfl rfl rfl rfl rfl ?_
  refine ax_getf (q := 30) (v := am_I (kx_ tp n p)) rfl rfl (am_fg rfl hC1.kx.2.1) ?_
  refine ax_load (q := 31) rfl rfl rfl rfl rfl ?_
  refine ax_icmp_eq (q := 34) (x := 36) rfl rfl (fun h31 => ?_) (fun h31 => ?_)
  · refine ax_load (q := 37) rfl rfl rfl rfl rfl ?_
    refine ax_callv (q := 40) rfl rfl rfl rfl rfl rfl ?_
    have hw := (kx_w (i := 5) (by omega)).mp h31
    refine x_nextT (by omega) hC1 (fun e => by rw [hw.1] at e; exact absurd e (by decide)) (fun σ2 hf2 hC2 => ?_)
    have hf02 : gx_ [t + 12] [] [5, 6, 7, 9] σ σ2 := gx_tr hf1 hf2 (by intro x hx; simp at hx ⊢ <;> omega) (by intro x hx; simp at hx ⊢ <;> omega) (by intro x hx; simp at hx ⊢ <;> omega) (by intro x hx; simp at hx ⊢ <;> omega) (by intro x hx; simp at hx ⊢ <;> omega) (by intro x hx; simp at hx ⊢ <;> omega)
    refine ax_load (q := 41) rfl rfl rfl rfl rfl ?_
    refine ax_load (q := 42) rfl rfl rfl rfl rfl ?_
    refine ax_const (q := 44) (v := am_I 9) rfl rfl rfl ?_
    refine ax_callv (q := 47) rfl rfl rfl rfl rfl rfl ?_
    refine x_number (by omega) hC2 (fun h2 σ3 hf3 gJ g0 => ?_) (fun h2 h4 σ4 hf4 gJ g0 => ?_) (fun h2 hx hy => ?_)
    · refine ax_store (q := 49) (L' := [some (am_R 66), some (am_I 5), some (am_I 4), some (am_I 1), some (am_I ((k : Nat) : Int)), some (am_I (-1))]) rfl rfl rfl rfl rfl rfl ?_
      refine ax_load (q := 51) rfl rfl rfl rfl rfl ?_
      refine ax_const (q := 52) (v := am_I (-1)) rfl rfl rfl ?_
      refine ax_icmp_ne (q := 55) (x := 57) rfl rfl (fun h => absurd rfl h) (fun h52 => ?_)
      refine ax_const (q := 56) (v := am_I 0) rfl rfl rfl ?_
      refine ax_ret (r := some (am_I 0)) rfl ⟨rfl, Or.inl rfl⟩ ?_
      exact hN _ (by unfold opt_; rw [if_pos (show tks_ tp n p = 1 ∧ tkw_ tp n p = 512970880104 from hw)]; unfold num_; rw [if_pos h2]) _ (gx_tr hf02 hf3 (by intro x hx; simp at hx ⊢ <;> omega) (by intro x hx; simp at hx ⊢ <;> omega) (by intro x hx; simp at hx ⊢ <;> omega) (by intro x hx; simp at hx ⊢ <;> omega) (by intro x hx; simp at hx ⊢ <;> omega) (by intro x hx; simp at hx ⊢ <;> omega)) g0
    · refine ax_store (q := 49) (L' := [some (am_R 66), some (am_I 5), some (am_I 4), some (am_I 1), some (am_I ((k : Nat) : Int)), some (am_I (-1))]) rfl rfl rfl rfl rfl rfl ?_
      refine ax_load (q := 51) rfl rfl rfl rfl rfl ?_
      refine ax_const (q := 52) (v := am_I (-1)) rfl rfl rfl ?_
      refine ax_icmp_ne (q := 55) (x := 57) rfl rfl (fun h => absurd rfl h) (fun h52 => ?_)
      refine ax_const (q := 56) (v := am_I 0) rfl rfl rfl ?_
      refine ax_ret (r := some (am_I 0)) rfl ⟨rfl, Or.inl rfl⟩ ?_
      exact hN _ (by unfold opt_; rw [if_pos (show tks_ tp n p = 1 ∧ tkw_ tp n p = 512970880104 from hw)]; unfold num_; rw [if_neg (fun e => e h2), if_neg h4]) _ (gx_tr hf02 hf4 (by intro x hx; simp at hx ⊢ <;> omega) (by intro x hx; simp at hx ⊢ <;> omega) (by intro x hx; simp at hx ⊢ <;> omega) (by intro x hx; simp at hx ⊢ <;> omega) (by intro x hx; simp at hx ⊢ <;> omega) (by intro x hx; simp at hx ⊢ <;> omega)) g0
    · refine ax_store (q := 49) (L' := [some (am_R 66), some (am_I 5), some (am_I 4), some (am_I 1), some (am_I ((k : Nat) : Int)), some (am_I (tkn_ tp n (nxp_ tp n p)))]) rfl rfl rfl rfl rfl rfl ?_
      refine ax_load (q := 51) rfl rfl rfl rfl rfl ?_
      refine ax_const (q := 52) (v := am_I (-1)) rfl rfl rfl ?_
      refine ax_icmp_ne (q := 55) (x := 57) rfl rfl (fun h52 => ?_) (fun h => absurd h (by omega))
      refine ax_load (q := 58) rfl rfl rfl rfl rfl ?_
      refine ax_getf (q := 61) (v := am_R t) rfl rfl (am_fgR rfl hC2.tn) ?_
      refine ax_getf (q := 64) (v := am_R (t + 7)) rfl rfl (xg7_2 hC.ht) ?_
      refine ax_load (q := 65) rfl rfl rfl rfl rfl ?_
      refine bx_aald (q := 66) (k := 4) (z := t + 12) rfl rfl (Or.inl (kd_7 hC.ht)) (by omega) (by omega) (by omega) ?_
      refine ax_load (q := 68) rfl rfl rfl rfl rfl ?_
      refine ax_load (q := 70) rfl rfl rfl rfl rfl ?_
      refine bx_iast (q := 71) (k := k) rfl rfl (kd_12 hC.ht) (by omega) (by omega) ?_
      refine ax_load (q := 72) rfl rfl rfl rfl rfl ?_
      refine ax_callv (q := 75) rfl rfl rfl rfl rfl rfl ?_
      obtain ⟨σ5, h5⟩ : ∃ u, u = (am_sI σ2 (t + 12) (am_up (σ2.1 (t + 12)) k (tkn_ tp n (nxp_ tp n p)))) := ⟨_, rfl⟩
      show am_Ev _ _ _ (am_sI σ2 (t + 12) (am_up (σ2.1 (t + 12)) k (tkn_ tp n (nxp_ tp n p)))) _
      rw [← h5]
      have hg5 : gx_ [t + 12] [] [] σ2 σ5 := by rw [h5]; exact gx_A (gx_rf _ _ _ _) (by simp) (by omega)
      have hf5 : gx_ [t + 12] [] [5, 6, 7, 9] σ σ5 := gx_tr hf02 hg5 (by intro x hx; simp at hx ⊢ <;> omega) (by intro x hx; simp at hx ⊢ <;> omega) (by intro x hx; simp at hx ⊢ <;> omega) (by intro x hx; simp at hx ⊢ <;> omega) (by intro x hx; simp at hx ⊢ <;> omega) (by intro x hx; simp at hx ⊢ <;> omega)
      have hC5 := hC2.fr hg5 (by simp <;> omega) (by simp) (by simp) (by rw [h5]; rfl)
      have v5 : σ5.1 (t + 12) = am_up (σ.1 (t + 12)) k (tkn_ tp n (nxp_ tp n p)) := by rw [h5, sI_at, hf2.1 _ (by simp) (by omega), v1, up_up]
      refine x_nextT (by omega) hC5 (fun e => by rw [h2] at e; exact absurd e (by decide)) (fun σ6 hf6 hC6 => ?_)
      refine ax_const (q := 76) (v := am_I 1) rfl rfl rfl ?_
      refine ax_ret (r := some (am_I 1)) rfl ⟨rfl, Or.inr rfl⟩ ?_
      exact hY _ _ (by unfold opt_; rw [if_pos (show tks_ tp n p = 1 ∧ tkw_ tp n p = 512970880104 from hw)]; unfold num_; rw [if_neg (fun e => e h2), if_pos ⟨hx, hy⟩]) _ (gx_tr hf5 hf6 (by intro x hx; simp at hx ⊢ <;> omega) (by intro x hx; simp at hx ⊢ <;> omega) (by intro x hx; simp at hx ⊢ <;> omega) (by intro x hx; simp at hx ⊢ <;> omega) (by intro x hx; simp at hx ⊢ <;> omega) (by intro x hx; simp at hx ⊢ <;> omega)) (by rw [hf6.1 _ (by simp) (by omega)]; exact v5) hC6
  · refine ax_const (q := 35) (v := am_I 1) rfl rfl rfl ?_
    refine ax_ret (r := some (am_I 1)) rfl ⟨rfl, Or.inr rfl⟩ ?_
    exact hY _ _ (if_neg (fun e : tks_ tp n p = 1 ∧ tkw_ tp n p = 512970880104 => h31 ((kx_w (i := 5) (by omega)).mpr e))) _ hf1 v1 hC1

theorem opt_bd {tp : Nat → Int} {n : Nat} {w x y z : Int} {p p' : Nat} {v : Int} (h : opt_ tp n w x y z p = Sum.inr (v, p')) (hz : x ≤ z ∧ z ≤ y) : x ≤ v ∧ v ≤ y := by
  unfold opt_ at h
  split at h
  · have := num_in h
    exact ⟨this.1, this.2.1⟩
  · cases h
    exact hz

