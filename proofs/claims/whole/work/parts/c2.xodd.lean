theorem x_readsOdds {d : Nat} (hd : 5 ≤ d) {σ : am_S} {tp : Nat → Int} {n t p : Nat} (hC : RC_ tp n t p σ) (h3 : tks_ tp n p ≠ 3) {g : Nat → Int} {bq mq bo mo : Nat} (hNq : NM_ (t + 6) (t + 1) 3 g bq mq σ) (hNo : NM_ (t + 5) (t + 1) 2 g bo mo σ) (hq3 : mq ≤ 3) {Q : Option am_V → am_S → Prop} (o1 : ¬ (tks_ tp n (nxp_ tp n p) = 1 ∧ own_ (tkw_ tp n (nxp_ tp n p)) = false) → ∀ σ', gx_ [t + 16, t + 17, t + 18] [] [0, 1, 5, 6, 7, 9] σ σ' → FX_ tp n (2, nxp_ tp n p) σ' → Q (some (am_I 0)) σ') (o2 : (tks_ tp n (nxp_ tp n p) = 1 ∧ own_ (tkw_ tp n (nxp_ tp n p)) = false) → fi_ g (tkw_ tp n (nxp_ tp n p)) bq mq < 0 → ∀ σ', gx_ [t + 16, t + 17, t + 18] [] [0, 1, 5, 6, 7, 9] σ σ' → FX_ tp n (5, nxp_ tp n p) σ' → Q (some (am_I 0)) σ') (o3 : ∀ r : Nat, (tks_ tp n (nxp_ tp n p) = 1 ∧ own_ (tkw_ tp n (nxp_ tp n p)) = false) → fi_ g (tkw_ tp n (nxp_ tp n p)) bq mq = (r : Int) → ¬ (tks_ tp n (nxp_ tp n (nxp_ tp n p)) = 1 ∧ own_ (tkw_ tp n (nxp_ tp n (nxp_ tp n p))) = false) → ∀ σ', gx_ [t + 16, t + 17, t + 18] [] [0, 1, 5, 6, 7, 9] σ σ' → FX_ tp n (2, nxp_ tp n (nxp_ tp n p)) σ' → Q (some (am_I 0)) σ') (o4 : ∀ r : Nat, (tks_ tp n (nxp_ tp n p) = 1 ∧ own_ (tkw_ tp n (nxp_ tp n p)) = false) → fi_ g (tkw_ tp n (nxp_ tp n p)) bq mq = (r : Int) → (tks_ tp n (nxp_ tp n (nxp_ tp n p)) = 1 ∧ own_ (tkw_ tp n (nxp_ tp n (nxp_ tp n p))) = false) → fi_ g (tkw_ tp n (nxp_ tp n (nxp_ tp n p))) bo mo < 0 → ∀ σ', gx_ [t + 16, t + 17, t + 18] [] [0, 1, 5, 6, 7, 9] σ σ' → FX_ tp n (5, nxp_ tp n (nxp_ tp n p)) σ' → Q (some (am_I 0)) σ') (o5 : ∀ r o : Nat, (tks_ tp n (nxp_ tp n p) = 1 ∧ own_ (tkw_ tp n (nxp_ tp n p)) = false) → fi_ g (tkw_ tp n (nxp_ tp n p)) bq mq = (r : Int) → (tks_ tp n (nxp_ tp n (nxp_ tp n p)) = 1 ∧ own_ (tkw_ tp n (nxp_ tp n (nxp_ tp n p))) = false) → fi_ g (tkw_ tp n (nxp_ tp n (nxp_ tp n p))) bo mo = (o : Int) → ¬ σ.1 (t + 16 + r) o = 0 → ∀ σ', gx_ [t + 16, t + 17, t + 18] [] [0, 1, 5, 6, 7, 9] σ σ' → FX_ tp n (3, nxp_ tp n (nxp_ tp n p)) σ' → Q (some (am_I 0)) σ') (o6 : ∀ r o : Nat, (tks_ tp n (nxp_ tp n p) = 1 ∧ own_ (tkw_ tp n (nxp_ tp n p)) = false) → fi_ g (tkw_ tp n (nxp_ tp n p)) bq mq = (r : Int) → (tks_ tp n (nxp_ tp n (nxp_ tp n p)) = 1 ∧ own_ (tkw_ tp n (nxp_ tp n (nxp_ tp n p))) = false) → fi_ g (tkw_ tp n (nxp_ tp n (nxp_ tp n p))) bo mo = (o : Int) → σ.1 (t + 16 + r) o = 0 → ¬ tks_ tp n (nxp_ tp n (nxp_ tp n (nxp_ tp n p))) = 2 → ∀ σ', gx_ [t + 16, t + 17, t + 18] [] [0, 1, 5, 6, 7, 9] σ σ' → FX_ tp n (2, nxp_ tp n (nxp_ tp n (nxp_ tp n p))) σ' → Q (some (am_I 0)) σ') (o7 : ∀ r o : Nat, (tks_ tp n (nxp_ tp n p) = 1 ∧ own_ (tkw_ tp n (nxp_ tp n p)) = false) → fi_ g (tkw_ tp n (nxp_ tp n p)) bq mq = (r : Int) → (tks_ tp n (nxp_ tp n (nxp_ tp n p)) = 1 ∧ own_ (tkw_ tp n (nxp_ tp n (nxp_ tp n p))) = false) → fi_ g (tkw_ tp n (nxp_ tp n (nxp_ tp n p))) bo mo = (o : Int) → σ.1 (t + 16 + r) o = 0 → tks_ tp n (nxp_ tp n (nxp_ tp n (nxp_ tp n p))) = 2 → ¬ (1 ≤ tkn_ tp n (nxp_ tp n (nxp_ tp n (nxp_ tp n p))) ∧ tkn_ tp n (nxp_ tp n (nxp_ tp n (nxp_ tp n p))) ≤ 9) → ∀ σ', gx_ [t + 16, t + 17, t + 18] [] [0, 1, 5, 6, 7, 9] σ σ' → FX_ tp n (4, nxp_ tp n (nxp_ tp n (nxp_ tp n p))) σ' → Q (some (am_I 0)) σ') (o8 : ∀ r o : Nat, (tks_ tp n (nxp_ tp n p) = 1 ∧ own_ (tkw_ tp n (nxp_ tp n p)) = false) → fi_ g (tkw_ tp n (nxp_ tp n p)) bq mq = (r : Int) → (tks_ tp n (nxp_ tp n (nxp_ tp n p)) = 1 ∧ own_ (tkw_ tp n (nxp_ tp n (nxp_ tp n p))) = false) → fi_ g (tkw_ tp n (nxp_ tp n (nxp_ tp n p))) bo mo = (o : Int) → σ.1 (t + 16 + r) o = 0 → tks_ tp n (nxp_ tp n (nxp_ tp n (nxp_ tp n p))) = 2 → 1 ≤ tkn_ tp n (nxp_ tp n (nxp_ tp n (nxp_ tp n p))) → tkn_ tp n (nxp_ tp n (nxp_ tp n (nxp_ tp n p))) ≤ 9 → kx_ tp n (nxp_ tp n (nxp_ tp n (nxp_ tp n (nxp_ tp n p)))) ≠ 59 → ∀ σ', gx_ [t + 16, t + 17, t + 18] [] [0, 1, 5, 6, 7, 9] σ σ' → FX_ tp n (2, nxp_ tp n (nxp_ tp n (nxp_ tp n (nxp_ tp n p)))) σ' → Q (some (am_I 0)) σ') (hY : ∀ r o : Nat, (tks_ tp n (nxp_ tp n p) = 1 ∧ own_ (tkw_ tp n (nxp_ tp n p)) = false) → fi_ g (tkw_ tp n (nxp_ tp n p)) bq mq = (r : Int) → (tks_ tp n (nxp_ tp n (nxp_ tp n p)) = 1 ∧ own_ (tkw_ tp n (nxp_ tp n (nxp_ tp n p))) = false) → fi_ g (tkw_ tp n (nxp_ tp n (nxp_ tp n p))) bo mo = (o : Int) → σ.1 (t + 16 + r) o = 0 → tks_ tp n (nxp_ tp n (nxp_ tp n (nxp_ tp n p))) = 2 → 1 ≤ tkn_ tp n (nxp_ tp n (nxp_ tp n (nxp_ tp n p))) → tkn_ tp n (nxp_ tp n (nxp_ tp n (nxp_ tp n p))) ≤ 9 → kx_ tp n (nxp_ tp n (nxp_ tp n (nxp_ tp n (nxp_ tp n p)))) = 59 → ∀ σ', gx_ [t + 16, t + 17, t + 18] [] [0, 1, 5, 6, 7, 9] σ σ' → σ'.1 (t + 16 + r) = am_up (σ.1 (t + 16 + r)) o (tkn_ tp n (nxp_ tp n (nxp_ tp n (nxp_ tp n p)))) → RC_ tp n t (nxp_ tp n (nxp_ tp n (nxp_ tp n (nxp_ tp n (nxp_ tp n p))))) σ' → Q (some (am_I 1)) σ') : am_Ev d 45 [am_R 66] σ Q := by
  obtain ⟨d, rfl⟩ : ∃ e, d = e + 1 := ⟨d - 1, by omega⟩
  have ht := hC.ht
  refine ev_in (m := 45) (c := k_X4_readsOdds) (L := [some (am_R 66), none, none, none]) rfl rfl rfl rfl rfl rfl ?_
  refine ax_load (q := 1) rfl rfl rfl rfl rfl ?_
  refine ax_callv (q := 4) rfl rfl rfl rfl rfl rfl ?_
  refine x_nextT (by omega) hC h3 (fun σ1 hf1 hC1 => ?_)
  have hNq1 := hNq.fr hf1 (by simp) (by simp) (by omega) (by omega)
  refine ax_load (q := 5) rfl rfl rfl rfl rfl ?_
  refine ax_const (q := 6) (v := am_I 3) rfl rfl rfl ?_
  refine ax_callv (q := 9) rfl rfl rfl rfl rfl rfl ?_
  refine x_known3 (by omega) hC1 hNq1 (fun hk1 σk hfk gJ g0 => ?_) (fun hk1 hu1 σu hfu gJ g0 => ?_) (fun hk1 hu1 => ?_)
  · refine ax_store (q := 10) (L' := [some (am_R 66), some (am_I (-1)), none, none]) rfl rfl rfl rfl rfl rfl ?_
    refine ax_load (q := 11) rfl rfl rfl rfl rfl ?_
    refine ax_const (q := 12) (v := am_I (-1)) rfl rfl rfl ?_
    refine ax_icmp_ne (q := 15) (x := 17) rfl rfl (fun h => absurd rfl h) (fun h12 => ?_)
    refine ax_const (q := 16) (v := am_I 0) rfl rfl rfl ?_
    refine ax_ret (r := some (am_I 0)) rfl ⟨rfl, Or.inl rfl⟩ ?_
    exact o1 hk1 _ (gx_tr (gx_rf [] [] [] σ) (gx_tr hf1 hfk (by intro x hx; simp at hx ⊢ <;> omega) (by intro x hx; simp at hx ⊢ <;> omega) (by intro x hx; simp at hx ⊢ <;> omega) (by intro x hx; simp at hx ⊢ <;> omega) (by intro x hx; simp at hx ⊢ <;> omega) (by intro x hx; simp at hx ⊢ <;> omega) : gx_ [] [] [0, 1, 5, 6, 7, 9] σ _) (by intro x hx; simp at hx ⊢ <;> omega) (by intro x hx; simp at hx ⊢ <;> omega) (by intro x hx; simp at hx ⊢ <;> omega) (by intro x hx; simp at hx ⊢ <;> omega) (by intro x hx; simp at hx ⊢ <;> omega) (by intro x hx; simp at hx ⊢ <;> omega)) g0
  · refine ax_store (q := 10) (L' := [some (am_R 66), some (am_I (-1)), none, none]) rfl rfl rfl rfl rfl rfl ?_
    refine ax_load (q := 11) rfl rfl rfl rfl rfl ?_
    refine ax_const (q := 12) (v := am_I (-1)) rfl rfl rfl ?_
    refine ax_icmp_ne (q := 15) (x := 17) rfl rfl (fun h => absurd rfl h) (fun h12 => ?_)
    refine ax_const (q := 16) (v := am_I 0) rfl rfl rfl ?_
    refine ax_ret (r := some (am_I 0)) rfl ⟨rfl, Or.inl rfl⟩ ?_
    exact o2 hk1 hu1 _ (gx_tr (gx_rf [] [] [] σ) (gx_tr hf1 hfu (by intro x hx; simp at hx ⊢ <;> omega) (by intro x hx; simp at hx ⊢ <;> omega) (by intro x hx; simp at hx ⊢ <;> omega) (by intro x hx; simp at hx ⊢ <;> omega) (by intro x hx; simp at hx ⊢ <;> omega) (by intro x hx; simp at hx ⊢ <;> omega) : gx_ [] [] [0, 1, 5, 6, 7, 9] σ _) (by intro x hx; simp at hx ⊢ <;> omega) (by intro x hx; simp at hx ⊢ <;> omega) (by intro x hx; simp at hx ⊢ <;> omega) (by intro x hx; simp at hx ⊢ <;> omega) (by intro x hx; simp at hx ⊢ <;> omega) (by intro x hx; simp at hx ⊢ <;> omega)) g0
  · have hfb1 := fi_bd g (tkw_ tp n (nxp_ tp n p)) bq mq
    obtain ⟨r, hr⟩ : ∃ r : Nat, fi_ g (tkw_ tp n (nxp_ tp n p)) bq mq = (r : Int) := ⟨(fi_ g (tkw_ tp n (nxp_ tp n p)) bq mq).toNat, by omega⟩
    rw [hr]
    refine ax_store (q := 10) (L' := [some (am_R 66), some (am_I ((r : Nat) : Int)), none, none]) rfl rfl rfl rfl rfl rfl ?_
    refine ax_load (q := 11) rfl rfl rfl rfl rfl ?_
    refine ax_const (q := 12) (v := am_I (-1)) rfl rfl rfl ?_
    refine ax_icmp_ne (q := 15) (x := 17) rfl rfl (fun h12 => ?_) (fun h => absurd h (by omega))
    refine ax_load (q := 18) rfl rfl rfl rfl rfl ?_
    refine ax_callv (q := 21) rfl rfl rfl rfl rfl rfl ?_
    refine x_nextT (by omega) hC1 (fun e => by rw [hk1.1] at e; exact absurd e (by decide)) (fun σ2 hf2 hC2 => ?_)
    have hf02 : gx_ [] [] [0, 1, 5, 6, 7, 9] σ σ2 := gx_tr hf1 hf2 (by intro x hx; simp at hx ⊢ <;> omega) (by intro x hx; simp at hx ⊢ <;> omega) (by intro x hx; simp at hx ⊢ <;> omega) (by intro x hx; simp at hx ⊢ <;> omega) (by intro x hx; simp at hx ⊢ <;> omega) (by intro x hx; simp at hx ⊢ <;> omega)
    have hNo2 := hNo.fr hf02 (by simp) (by simp) (by omega) (by omega)
    refine ax_load (q := 22) rfl rfl rfl rfl rfl ?_
    refine ax_const (q := 23) (v := am_I 2) rfl rfl rfl ?_
    refine ax_callv (q := 26) rfl rfl rfl rfl rfl rfl ?_
    refine x_known2 (by omega) hC2 hNo2 (fun hk2 σk2 hfk gJ g0 => ?_) (fun hk2 hu2 σu2 hfu gJ g0 => ?_) (fun hk2 hu2 => ?_)
    · refine ax_store (q := 27) (L' := [some (am_R 66), some (am_I ((r : Nat) : Int)), some (am_I (-1)), none]) rfl rfl rfl rfl rfl rfl ?_
      refine ax_load (q := 28) rfl rfl rfl rfl rfl ?_
      refine ax_const (q := 29) (v := am_I (-1)) rfl rfl rfl ?_
      refine ax_icmp_ne (q := 32) (x := 34) rfl rfl (fun h => absurd rfl h) (fun h29 => ?_)
      refine ax_const (q := 33) (v := am_I 0) rfl rfl rfl ?_
      refine ax_ret (r := some (am_I 0)) rfl ⟨rfl, Or.inl rfl⟩ ?_
      exact o3 r hk1 hr hk2 _ (gx_tr (gx_rf [] [] [] σ) (gx_tr hf02 hfk (by intro x hx; simp at hx ⊢ <;> omega) (by intro x hx; simp at hx ⊢ <;> omega) (by intro x hx; simp at hx ⊢ <;> omega) (by intro x hx; simp at hx ⊢ <;> omega) (by intro x hx; simp at hx ⊢ <;> omega) (by intro x hx; simp at hx ⊢ <;> omega) : gx_ [] [] [0, 1, 5, 6, 7, 9] σ _) (by intro x hx; simp at hx ⊢ <;> omega) (by intro x hx; simp at hx ⊢ <;> omega) (by intro x hx; simp at hx ⊢ <;> omega) (by intro x hx; simp at hx ⊢ <;> omega) (by intro x hx; simp at hx ⊢ <;> omega) (by intro x hx; simp at hx ⊢ <;> omega)) g0
    · refine ax_store (q := 27) (L' := [some (am_R 66), some (am_I ((r : Nat) : Int)), some (am_I (-1)), none]) rfl rfl rfl rfl rfl rfl ?_
      refine ax_load (q := 28) rfl rfl rfl rfl rfl ?_
      refine ax_const (q := 29) (v := am_I (-1)) rfl rfl rfl ?_
      refine ax_icmp_ne (q := 32) (x := 34) rfl rfl (fun h => absurd rfl h) (fun h29 => ?_)
      refine ax_const (q := 33) (v := am_I 0) rfl rfl rfl ?_
      refine ax_ret (r := some (am_I 0)) rfl ⟨rfl, Or.inl rfl⟩ ?_
      exact o4 r hk1 hr hk2 hu2 _ (gx_tr (gx_rf [] [] [] σ) (gx_tr hf02 hfu (by intro x hx; simp at hx ⊢ <;> omega) (by intro x hx; simp at hx ⊢ <;> omega) (by intro x hx; simp at hx ⊢ <;> omega) (by intro x hx; simp at hx ⊢ <;> omega) (by intro x hx; simp at hx ⊢ <;> omega) (by intro x hx; simp at hx ⊢ <;> omega) : gx_ [] [] [0, 1, 5, 6, 7, 9] σ _) (by intro x hx; simp at hx ⊢ <;> omega) (by intro x hx; simp at hx ⊢ <;> omega) (by intro x hx; simp at hx ⊢ <;> omega) (by intro x hx; simp at hx ⊢ <;> omega) (by intro x hx; simp at hx ⊢ <;> omega) (by intro x hx; simp at hx ⊢ <;> omega)) g0
    · have hm8 := hNo.2.1
      have hfb2 := fi_bd g (tkw_ tp n (nxp_ tp n (nxp_ tp n p))) bo mo
      obtain ⟨o, ho⟩ : ∃ o : Nat, fi_ g (tkw_ tp n (nxp_ tp n (nxp_ tp n p))) bo mo = (o : Int) := ⟨(fi_ g (tkw_ tp n (nxp_ tp n (nxp_ tp n p))) bo mo).toNat, by omega⟩
      rw [ho]
      refine ax_store (q := 27) (L' := [some (am_R 66), some (am_I ((r : Nat) : Int)), some (am_I ((o : Nat) : Int)), none]) rfl rfl rfl rfl rfl rfl ?_
      refine ax_load (q := 28) rfl rfl rfl rfl rfl ?_
      refine ax_const (q := 29) (v := am_I (-1)) rfl rfl rfl ?_
      refine ax_icmp_ne (q := 32) (x := 34) rfl rfl (fun h29 => ?_) (fun h => absurd h (by omega))
      refine ax_load (q := 35) rfl rfl rfl rfl rfl ?_
      refine ax_getf (q := 38) (v := am_R t) rfl rfl (am_fgR rfl hC2.tn) ?_
      refine ax_getf (q := 41) (v := am_R (t + 15)) rfl rfl (xg7_5 hC.ht) ?_
      refine ax_load (q := 42) rfl rfl rfl rfl rfl ?_
      refine bx_aald (q := 43) (k := r) (z := t + 16 + r) rfl rfl (Or.inl (kd_15 hC.ht)) (by omega) (by omega) (by omega) ?_
      refine ax_load (q := 44) rfl rfl rfl rfl rfl ?_
      refine bx_iald (q := 45) (k := o) (z := σ2.1 (t + 16 + r) o) rfl rfl (kd_sh hC.ht (by omega)) (by omega) (by omega) (rfl) ?_
      refine ax_if_eq (q := 48) (x := 54) rfl rfl (fun h45 => ?_) (fun h45 => ?_)
      · refine ax_load (q := 55) rfl rfl rfl rfl rfl ?_
        refine ax_callv (q := 58) rfl rfl rfl rfl rfl rfl ?_
        refine x_nextT (by omega) hC2 (fun e => by rw [hk2.1] at e; exact absurd e (by decide)) (fun σ3 hf3 hC3 => ?_)
        have hf03 : gx_ [] [] [0, 1, 5, 6, 7, 9] σ σ3 := gx_tr hf02 hf3 (by intro x hx; simp at hx ⊢ <;> omega) (by intro x hx; simp at hx ⊢ <;> omega) (by intro x hx; simp at hx ⊢ <;> omega) (by intro x hx; simp at hx ⊢ <;> omega) (by intro x hx; simp at hx ⊢ <;> omega) (by intro x hx; simp at hx ⊢ <;> omega)
        refine ax_load (q := 59) rfl rfl rfl rfl rfl ?_
        refine ax_const (q := 60) (v := am_I 1) rfl rfl rfl ?_
        refine ax_const (q := 62) (v := am_I 9) rfl rfl rfl ?_
        refine ax_callv (q := 65) rfl rfl rfl rfl rfl rfl ?_
        refine x_number (by omega) hC3 (fun h2 σn hfn gJ g0 => ?_) (fun h2 h4 σo hfo gJ g0 => ?_) (fun h2 hx hy => ?_)
        · refine ax_store (q := 66) (L' := [some (am_R 66), some (am_I ((r : Nat) : Int)), some (am_I ((o : Nat) : Int)), some (am_I (-1))]) rfl rfl rfl rfl rfl rfl ?_
          refine ax_load (q := 67) rfl rfl rfl rfl rfl ?_
          refine ax_const (q := 68) (v := am_I (-1)) rfl rfl rfl ?_
          refine ax_icmp_ne (q := 71) (x := 73) rfl rfl (fun h => absurd rfl h) (fun h68 => ?_)
          refine ax_const (q := 72) (v := am_I 0) rfl rfl rfl ?_
          refine ax_ret (r := some (am_I 0)) rfl ⟨rfl, Or.inl rfl⟩ ?_
          exact o6 r o hk1 hr hk2 ho (by rw [← hf02.1 (t + 16 + r) (by simp) (by omega)]; exact h45) h2 _ (gx_tr (gx_rf [] [] [] σ) (gx_tr hf03 hfn (by intro x hx; simp at hx ⊢ <;> omega) (by intro x hx; simp at hx ⊢ <;> omega) (by intro x hx; simp at hx ⊢ <;> omega) (by intro x hx; simp at hx ⊢ <;> omega) (by intro x hx; simp at hx ⊢ <;> omega) (by intro x hx; simp at hx ⊢ <;> omega) : gx_ [] [] [0, 1, 5, 6, 7, 9] σ _) (by intro x hx; simp at hx ⊢ <;> omega) (by intro x hx; simp at hx ⊢ <;> omega) (by intro x hx; simp at hx ⊢ <;> omega) (by intro x hx; simp at hx ⊢ <;> omega) (by intro x hx; simp at hx ⊢ <;> omega) (by intro x hx; simp at hx ⊢ <;> omega)) g0
        · refine ax_store (q := 66) (L' := [some (am_R 66), some (am_I ((r : Nat) : Int)), some (am_I ((o : Nat) : Int)), some (am_I (-1))]) rfl rfl rfl rfl rfl rfl ?_
          refine ax_load (q := 67) rfl rfl rfl rfl rfl ?_
          refine ax_const (q := 68) (v := am_I (-1)) rfl rfl rfl ?_
          refine ax_icmp_ne (q := 71) (x := 73) rfl rfl (fun h => absurd rfl h) (fun h68 => ?_)
          refine ax_const (q := 72) (v := am_I 0) rfl rfl rfl ?_
          refine ax_ret (r := some (am_I 0)) rfl ⟨rfl, Or.inl rfl⟩ ?_
          exact o7 r o hk1 hr hk2 ho (by rw [← hf02.1 (t + 16 + r) (by simp) (by omega)]; exact h45) h2 h4 _ (gx_tr (gx_rf [] [] [] σ) (gx_tr hf03 hfo (by intro x hx; simp at hx ⊢ <;> omega) (by intro x hx; simp at hx ⊢ <;> omega) (by intro x hx; simp at hx ⊢ <;> omega) (by intro x hx; simp at hx ⊢ <;> omega) (by intro x hx; simp at hx ⊢ <;> omega) (by intro x hx; simp at hx ⊢ <;> omega) : gx_ [] [] [0, 1, 5, 6, 7, 9] σ _) (by intro x hx; simp at hx ⊢ <;> omega) (by intro x hx; simp at hx ⊢ <;> omega) (by intro x hx; simp at hx ⊢ <;> omega) (by intro x hx; simp at hx ⊢ <;> omega) (by intro x hx; simp at hx ⊢ <;> omega) (by intro x hx; simp at hx ⊢ <;> omega)) g0
        · refine ax_store (q := 66) (L' := [some (am_R 66), some (am_I ((r : Nat) : Int)), some (am_I ((o : Nat) : Int)), some (am_I (tkn_ tp n (nxp_ tp n (nxp_ tp n (nxp_ tp n p)))))]) rfl rfl rfl rfl rfl rfl ?_
          refine ax_load (q := 67) rfl rfl rfl rfl rfl ?_
          refine ax_const (q := 68) (v := am_I (-1)) rfl rfl rfl ?_
          refine ax_icmp_ne (q := 71) (x := 73) rfl rfl (fun h68 => ?_) (fun h => absurd h (by omega))
          refine ax_load (q := 74) rfl rfl rfl rfl rfl ?_
          refine ax_getf (q := 77) (v := am_R t) rfl rfl (am_fgR rfl hC3.tn) ?_
          refine ax_getf (q := 80) (v := am_R (t + 15)) rfl rfl (xg7_5 hC.ht) ?_
          refine ax_load (q := 81) rfl rfl rfl rfl rfl ?_
          refine bx_aald (q := 82) (k := r) (z := t + 16 + r) rfl rfl (Or.inl (kd_15 hC.ht)) (by omega) (by omega) (by omega) ?_
          refine ax_load (q := 83) rfl rfl rfl rfl rfl ?_
          refine ax_load (q := 84) rfl rfl rfl rfl rfl ?_
          refine bx_iast (q := 85) (k := o) rfl rfl (kd_sh hC.ht (by omega)) (by omega) (by omega) ?_
          refine ax_load (q := 86) rfl rfl rfl rfl rfl ?_
          refine ax_callv (q := 89) rfl rfl rfl rfl rfl rfl ?_
          obtain ⟨σ5, h5⟩ : ∃ u, u = (am_sI σ3 (t + 16 + r) (am_up (σ3.1 (t + 16 + r)) o (tkn_ tp n (nxp_ tp n (nxp_ tp n (nxp_ tp n p)))))) := ⟨_, rfl⟩
          show am_Ev _ _ _ (am_sI σ3 (t + 16 + r) (am_up (σ3.1 (t + 16 + r)) o (tkn_ tp n (nxp_ tp n (nxp_ tp n (nxp_ tp n p)))))) _
          rw [← h5]
          have hA : t + 16 + r ∈ [t + 16, t + 17, t + 18] := by simp; omega
          have hf5 : gx_ [t + 16, t + 17, t + 18] [] [0, 1, 5, 6, 7, 9] σ σ5 := by rw [h5]; exact gx_A (gx_tr (gx_rf [] [] [] σ) hf03 (by intro x hx; simp at hx ⊢ <;> omega) (by intro x hx; simp at hx ⊢ <;> omega) (by intro x hx; simp at hx ⊢ <;> omega) (by intro x hx; simp at hx ⊢ <;> omega) (by intro x hx; simp at hx ⊢ <;> omega) (by intro x hx; simp at hx ⊢ <;> omega)) hA (by omega)
          have hw5 : gx_ [t + 16, t + 17, t + 18] [] [] σ3 σ5 := by rw [h5]; exact gx_A (gx_rf _ _ _ _) hA (by omega)
          have hC5 := hC3.fr hw5 (by simp) (by simp) (by simp) (by rw [h5]; rfl)
          have v5 : σ5.1 (t + 16 + r) = am_up (σ.1 (t + 16 + r)) o (tkn_ tp n (nxp_ tp n (nxp_ tp n (nxp_ tp n p)))) := by rw [h5, sI_at, hf03.1 _ (by simp) (by omega)]
          refine x_nextT (by omega) hC5 (fun e => by rw [h2] at e; exact absurd e (by decide)) (fun σ6 hf6 hC6 => ?_)
          refine ax_load (q := 90) rfl rfl rfl rfl rfl ?_
          refine ax_const (q := 92) (v := am_I 59) rfl rfl rfl ?_
          refine ax_callv (q := 95) rfl rfl rfl rfl rfl rfl ?_
          refine x_take (w := 59) (by omega) hC6 (by decide) (fun hk σ7 hf7 gJ g0 => ?_) (fun hk σ8 hf8 hC8 => ?_)
          · refine ax_ret (r := some (am_I 0)) rfl ⟨rfl, Or.inl rfl⟩ ?_
            exact o8 r o hk1 hr hk2 ho (by rw [← hf02.1 (t + 16 + r) (by simp) (by omega)]; exact h45) h2 hx hy hk _ (gx_tr (gx_tr hf5 hf6 (by intro x hx; simp at hx ⊢ <;> omega) (by intro x hx; simp at hx ⊢ <;> omega) (by intro x hx; simp at hx ⊢ <;> omega) (by intro x hx; simp at hx ⊢ <;> omega) (by intro x hx; simp at hx ⊢ <;> omega) (by intro x hx; simp at hx ⊢ <;> omega) : gx_ [t + 16, t + 17, t + 18] [] [0, 1, 5, 6, 7, 9] σ σ6) hf7 (by intro x hx; simp at hx ⊢ <;> omega) (by intro x hx; simp at hx ⊢ <;> omega) (by intro x hx; simp at hx ⊢ <;> omega) (by intro x hx; simp at hx ⊢ <;> omega) (by intro x hx; simp at hx ⊢ <;> omega) (by intro x hx; simp at hx ⊢ <;> omega)) g0
          · refine ax_ret (r := some (am_I 1)) rfl ⟨rfl, Or.inr rfl⟩ ?_
            exact hY r o hk1 hr hk2 ho (by rw [← hf02.1 (t + 16 + r) (by simp) (by omega)]; exact h45) h2 hx hy hk _ (gx_tr (gx_tr hf5 hf6 (by intro x hx; simp at hx ⊢ <;> omega) (by intro x hx; simp at hx ⊢ <;> omega) (by intro x hx; simp at hx ⊢ <;> omega) (by intro x hx; simp at hx ⊢ <;> omega) (by intro x hx; simp at hx ⊢ <;> omega) (by intro x hx; simp at hx ⊢ <;> omega) : gx_ [t + 16, t + 17, t + 18] [] [0, 1, 5, 6, 7, 9] σ σ6) hf8 (by intro x hx; simp at hx ⊢ <;> omega) (by intro x hx; simp at hx ⊢ <;> omega) (by intro x hx; simp at hx ⊢ <;> omega) (by intro x hx; simp at hx ⊢ <;> omega) (by intro x hx; simp at hx ⊢ <;> omega) (by intro x hx; simp at hx ⊢ <;> omega)) (by rw [hf8.1 _ (by simp) (by omega), hf6.1 _ (by simp) (by omega)]; exact v5) hC8
      · refine ax_load (q := 49) rfl rfl rfl rfl rfl ?_
        refine ax_const (q := 50) (v := am_I 3) rfl rfl rfl ?_
        refine ax_callv (q := 53) rfl rfl rfl rfl rfl rfl ?_
        refine x_refuse (by omega) hC2.kx.1 (fun σr hfr g0 g1 gJ => ?_)
        refine ax_ret (r := some (am_I 0)) rfl ⟨rfl, Or.inl rfl⟩ ?_
        exact o5 r o hk1 hr hk2 ho (by rw [← hf02.1 (t + 16 + r) (by simp) (by omega)]; exact h45) _ (gx_tr (gx_rf [] [] [] σ) (gx_tr hf02 hfr (by intro x hx; simp at hx ⊢ <;> omega) (by intro x hx; simp at hx ⊢ <;> omega) (by intro x hx; simp at hx ⊢ <;> omega) (by intro x hx; simp at hx ⊢ <;> omega) (by intro x hx; simp at hx ⊢ <;> omega) (by intro x hx; simp at hx ⊢ <;> omega) : gx_ [] [] [0, 1, 5, 6, 7, 9] σ _) (by intro x hx; simp at hx ⊢ <;> omega) (by intro x hx; simp at hx ⊢ <;> omega) (by intro x hx; simp at hx ⊢ <;> omega) (by intro x hx; simp at hx ⊢ <;> omega) (by intro x hx; simp at hx ⊢ <;> omega) (by intro x hx; simp at hx ⊢ <;> omega)) ⟨by rw [g0]; exact (if_neg (fun e => by have e2 : tks_ tp n (nxp_ tp n (nxp_ tp n p)) = 3 := e; rw [hk2.1] at e2; exact absurd e2 (by decide))).symm, g1⟩

