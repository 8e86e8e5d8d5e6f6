theorem z4_ {Y : sp_T} {k s : Nat} (hs : s < 4) : (du_ (du_ (du_ (du_ Y 161 ((4 * k) + 0) 0) 161 ((4 * k) + 1) 0) 161 ((4 * k) + 2) 0) 161 ((4 * k) + 3) 0) 161 (4 * k + s) = 0 := by
  rcases (by omega : s = 0 ∨ s = 1 ∨ s = 2 ∨ s = 3) with rfl | rfl | rfl | rfl
  · rw [du_s, am_up_ne (by omega), du_s, am_up_ne (by omega), du_s, am_up_ne (by omega), du_s, am_up_same]
  · rw [du_s, am_up_ne (by omega), du_s, am_up_ne (by omega), du_s, am_up_same]
  · rw [du_s, am_up_ne (by omega), du_s, am_up_same]
  · rw [du_s, am_up_same]
theorem z4_o {Y : sp_T} {k j : Nat} (h : j < 4 * k ∨ 4 * k + 4 ≤ j) : (du_ (du_ (du_ (du_ Y 161 ((4 * k) + 0) 0) 161 ((4 * k) + 1) 0) 161 ((4 * k) + 2) 0) 161 ((4 * k) + 3) 0) 161 j = Y 161 j := by
  rw [du_s, am_up_ne (by omega), du_s, am_up_ne (by omega), du_s, am_up_ne (by omega), du_s, am_up_ne (by omega)]
theorem z4_c {Y : sp_T} {k c : Nat} (h : c ≠ 161) : (du_ (du_ (du_ (du_ Y 161 ((4 * k) + 0) 0) 161 ((4 * k) + 1) 0) 161 ((4 * k) + 2) 0) 161 ((4 * k) + 3) 0) c = Y c := by
  rw [du_o h, du_o h, du_o h, du_o h]
theorem xd_per {t : Nat} (ht : t = 2 ∨ t = 34) {D : sp_T} {nS nO nR nP nU : Nat} (hV : DW_ D nS nO nR nP nU) {σ σz : am_S} (hX : XD_ t D σ) (hf : gx_ [t + 1, t + 19, t + 20, t + 22 + nP] [t + 3] [0, 1, 5, 6, 7, 9] σ σz) (hm : nP < 6) {w b : Int} {a : Nat} {D2 : sp_T} (e1 : ∀ c, c ≠ 161 → D2 c = (du_ (du_ (du_ D 137 (15 + nP) w) 159 nP (a : Int)) 160 nP b) c) (e2 : ∀ j, (j < 4 * nP ∨ 4 * nP + 4 ≤ j) → D2 161 j = D 161 j) (w1 : σz.1 (t + 1) = am_up (σ.1 (t + 1)) 0 ((nP + 1 : Nat) : Int)) (wN : NM_ (t + 3) (t + 1) 0 (am_up (D 137) (15 + nP) w) 15 (nP + 1) σz) (w19 : σz.1 (t + 19) = am_up (σ.1 (t + 19)) nP (a : Int)) (w20 : σz.1 (t + 20) = am_up (σ.1 (t + 20)) nP b) (wl : ∀ s, s < 4 → σz.1 (t + 22 + nP) s = D2 161 (4 * nP + s)) : XD_ t (du_ D2 135 46 ((nP + 1 : Nat) : Int)) σz := by
  have hO : (D 135 44).toNat = nO := by rw [hV.hO]; rfl
  have hS : (D 135 43).toNat = nS := by rw [hV.hS]; rfl
  have hR : (D 135 45).toNat = nR := by rw [hV.hR]; rfl
  have hP : (D 135 46).toNat = nP := by rw [hV.hP]; rfl
  have hS4 := hV.S4
  have hO8 := hV.O8
  have hR3 := hV.R3
  generalize hD : du_ D2 135 46 ((nP + 1 : Nat) : Int) = D'
  have d137 : D' 137 = am_up (D 137) (15 + nP) w := by rw [← hD, du_o (by decide), e1 _ (by decide)]; rfl
  have d159 : D' 159 = am_up (D 159) nP (a : Int) := by rw [← hD, du_o (by decide), e1 _ (by decide)]; rfl
  have d160 : D' 160 = am_up (D 160) nP b := by rw [← hD, du_o (by decide), e1 _ (by decide)]; rfl
  have d161 : D' 161 = D2 161 := by rw [← hD, du_o (by decide)]
  have d46 : D' 135 46 = ((nP + 1 : Nat) : Int) := by rw [← hD, du_s, am_up_same]
  have d135 : ∀ k, k ≠ 46 → D' 135 k = D 135 k := fun k hk => by rw [← hD, du_s, am_up_ne hk, e1 _ (by decide)]; rfl
  have dr : ∀ c, 138 ≤ c → (c < 159 ∨ 161 < c) → D' c = D c := fun c h1 h2 => by rw [← hD, du_o (by omega), e1 _ (by omega), du_o (by omega), du_o (by omega), du_o (by omega)]
  clear hD
  have hP' : (D' 135 46).toNat = nP + 1 := by rw [d46]; rfl
  refine ⟨⟨?_, ?_, ?_, ?_⟩, ?_, ?_, ?_, ?_, ?_, ?_⟩
  · exact hX.1.1.cg (by rw [w1, am_up_ne (by decide)]) (hf.2.2.1 _ (by simp) (by omega)) (fun i hi => by rw [d137, am_up_ne (by omega)]) (by rw [d135 _ (by decide)])
  · exact hX.1.2.1.cg (by rw [w1, am_up_ne (by decide)]) (hf.2.2.1 _ (by simp) (by omega)) (fun i hi => by rw [d137, am_up_ne (by omega)]) (by rw [d135 _ (by decide)])
  · exact hX.1.2.2.1.cg (by rw [w1, am_up_ne (by decide)]) (hf.2.2.1 _ (by simp) (by omega)) (fun i hi => by rw [d137, am_up_ne (by omega)]) (by rw [d135 _ (by decide)])
  · rw [hP', d137]
    exact wN
  · exact hX.2.1.cg (fun a h1 h2 => hf.1 _ (by simp; omega) (by omega)) (fun a h1 h2 => dr _ (by omega) (by omega)) (d135 _ (by decide))
  · exact hX.2.2.1.cg (fun r hr => hf.1 _ (by simp; omega) (by omega)) (dr _ (by decide) (by decide)) (d135 _ (by decide))
  · intro q hq
    rw [hP'] at hq
    rw [w19, w20, d159, d160, d161]
    by_cases e : q = nP
    · rw [e, am_up_same, am_up_same, am_up_same, am_up_same]
      exact ⟨rfl, rfl, wl⟩
    · have h0 := hX.2.2.2.1 q (by rw [hP]; omega)
      rw [am_up_ne e, am_up_ne e, am_up_ne e, am_up_ne e]
      exact ⟨h0.1, h0.2.1, fun s hs => by rw [hf.1 (t + 22 + q) (by simp; omega) (by omega), e2 _ (by omega)]; exact h0.2.2 s hs⟩
  · exact hX.2.2.2.2.1.cg (hf.1 _ (by simp; omega) (by omega)) (by rw [w1, am_up_ne (by decide)]) (d135 _ (by decide)) (d135 _ (by decide)) (d135 _ (by decide))
  · exact hX.2.2.2.2.2.1.cg (fun a h1 h2 => hf.1 _ (by simp; omega) (by omega)) (d135 _ (by decide)) (d135 _ (by decide)) (d135 _ (by decide)) (dr _ (by decide) (by decide)) (dr _ (by decide) (by decide))
  · exact hX.2.2.2.2.2.2.cg (hf.2.1 _ (by decide)) (d135 _ (by decide)) (d135 _ (by decide)) (d135 _ (by decide))

theorem x_readsPerson {d : Nat} (hd : 7 ≤ d) {σ : am_S} {tp : Nat → Int} {n t p : Nat} (hC : RC_ tp n t p σ) (h3 : tks_ tp n p ≠ 3) {D : sp_T} {nS nO nR nP nU : Nat} (hV : DW_ D nS nO nR nP nU) (hX : XD_ t D σ) {Q : Option am_V → am_S → Prop} (hF : 6 ≤ nP → ∀ σ', gl_ t σ σ' → FX_ tp n (2, p) σ' → Q (some (am_I 0)) σ') (hQ : nP < 6 → LX_ tp n t (sb_ (per_ tp n D nP nS nR p) (eol_ tp n)) σ Q) : am_Ev d 46 [am_R 66] σ Q := by
  obtain ⟨d, rfl⟩ : ∃ e, d = e + 1 := ⟨d - 1, by omega⟩
  have ht := hC.ht
  have hO : (D 135 44).toNat = nO := by rw [hV.hO]; rfl
  have hS : (D 135 43).toNat = nS := by rw [hV.hS]; rfl
  have hR : (D 135 45).toNat = nR := by rw [hV.hR]; rfl
  have hP : (D 135 46).toNat = nP := by rw [hV.hP]; rfl
  have hP6 := hV.P6
  have hR3 := hV.R3
  have hNO : NM_ (t + 3) (t + 1) 0 (D 137) 15 nP σ := by have h := hX.1.2.2.2; rw [hP] at h; exact h
  refine ev_in (m := 46) (c := k_X4_readsPerson) (L := [some (am_R 66), none, none, none]) rfl rfl rfl rfl rfl rfl ?_
  refine ax_load (q := 1) rfl rfl rfl rfl rfl ?_
  refine ax_getf (q := 4) (v := am_R t) rfl rfl (am_fgR rfl hC.tn) ?_
  refine ax_getf (q := 7) (v := am_R (t + 1)) rfl rfl (xg7_0 hC.ht) ?_
  refine ax_const (q := 8) (v := am_I 0) rfl rfl rfl ?_
  refine bx_iald (q := 9) (k := 0) (z := ((nP : Nat) : Int)) rfl rfl (kd_1 hC.ht) (by omega) (by omega) (hNO.1) ?_
  refine ax_store (q := 10) (L' := [some (am_R 66), some (am_I ((nP : Nat) : Int)), none, none]) rfl rfl rfl rfl rfl rfl ?_
  refine ax_load (q := 11) rfl rfl rfl rfl rfl ?_
  refine ax_const (q := 12) (v := am_I 0) rfl rfl rfl ?_
  refine ax_callv (q := 15) rfl rfl rfl rfl rfl rfl ?_
  refine x_named0 (by omega) hC h3 hNO (fun hm σa hg_σa g0 => ?_) (fun hm e he σb hg_σb g0 => ?_) (fun hm he σ1 hg_σ1 v1 hN1 hC1 => ?_)
  · have hf_σa : gx_ [t + 1, t + 19, t + 20, t + 22 + nP] [t + 3] [0, 1, 5, 6, 7, 9] σ σa := gx_tr2 (gx_rf _ _ _ σ) (gx_su hg_σa (by intro x hx; simp at hx ⊢ <;> omega) (by intro x hx; simp at hx ⊢ <;> omega) (by intro x hx; simp at hx ⊢ <;> omega))
    refine ax_if_eq (q := 18) (x := 27) rfl rfl (fun h15 => ?_) (fun h => absurd h (by omega))
    refine ax_const (q := 28) (v := am_I 0) rfl rfl rfl ?_
    refine ax_ret (r := some (am_I 0)) rfl ⟨rfl, Or.inl rfl⟩ ?_
    exact hF (by omega) _ (gl_gx hf_σa (by intro x hx; simp at hx; omega) (by intro x hx; simp at hx; omega) (by intro x hx; simp at hx ⊢; omega)) g0
  · have hf_σb : gx_ [t + 1, t + 19, t + 20, t + 22 + nP] [t + 3] [0, 1, 5, 6, 7, 9] σ σb := gx_tr2 (gx_rf _ _ _ σ) (gx_su hg_σb (by intro x hx; simp at hx ⊢ <;> omega) (by intro x hx; simp at hx ⊢ <;> omega) (by intro x hx; simp at hx ⊢ <;> omega))
    refine ax_if_eq (q := 18) (x := 27) rfl rfl (fun h15 => ?_) (fun h => absurd h (by omega))
    refine ax_const (q := 28) (v := am_I 0) rfl rfl rfl ?_
    refine ax_ret (r := some (am_I 0)) rfl ⟨rfl, Or.inl rfl⟩ ?_
    replace hQ := hQ hm
    unfold per_ at hQ
    rw [he] at hQ
    simp only [sbr_, sbl_] at hQ
    exact hQ.1 _ rfl _ (gl_gx hf_σb (by intro x hx; simp at hx; omega) (by intro x hx; simp at hx; omega) (by intro x hx; simp at hx ⊢; omega)) g0
  · replace hQ := hQ hm
    unfold per_ at hQ
    rw [he] at hQ
    simp only [sbr_, sbl_] at hQ
    have hf_σ1 : gx_ [t + 1, t + 19, t + 20, t + 22 + nP] [t + 3] [0, 1, 5, 6, 7, 9] σ σ1 := gx_tr2 (gx_rf _ _ _ σ) (gx_su hg_σ1 (by intro x hx; simp at hx ⊢ <;> omega) (by intro x hx; simp at hx ⊢ <;> omega) (by intro x hx; simp at hx ⊢ <;> omega))
    have hR1 : NM_ (t + 6) (t + 1) 3 (am_up (D 137) (15 + nP) (tkw_ tp n (nxp_ tp n p))) 12 nR σ1 := (hX.1.2.2.1.cg (by rw [v1, am_up_ne (by decide)]) (hg_σ1.2.2.1 _ (by simp) (by omega)) (fun i hi => am_up_ne (by have := hX.1.2.2.1.2.1; rw [hR] at hi; have := hV.R3; omega)) hR.symm)
    have hS1 : NM_ (t + 4) (t + 1) 1 (am_up (D 137) (15 + nP) (tkw_ tp n (nxp_ tp n p))) 0 nS σ1 := (hX.1.1.cg (by rw [v1, am_up_ne (by decide)]) (hg_σ1.2.2.1 _ (by simp) (by omega)) (fun i hi => am_up_ne (by rw [hS] at hi; have := hV.S4; omega)) hS.symm)
    refine ax_if_eq (q := 18) (x := 27) rfl rfl (fun h => absurd h (by omega)) (fun h15 => ?_)
    refine ax_load (q := 19) rfl rfl rfl rfl rfl ?_
    refine ax_const (q := 21) (v := am_I 9) rfl rfl rfl ?_
    refine ax_callv (q := 24) rfl rfl rfl rfl rfl rfl ?_
    refine x_wan (i := 9) (by omega) hC1 (w := 28518) rfl (by omega) rfl (fun e he σc hg_σc g0 => ?_) (fun he hkx σ2 hg_σ2 hC2 => ?_)
    · rw [he] at hQ
      simp only [sbr_, sbl_] at hQ
      have hf_σc : gx_ [t + 1, t + 19, t + 20, t + 22 + nP] [t + 3] [0, 1, 5, 6, 7, 9] σ σc := gx_tr2 hf_σ1 (gx_su hg_σc (by intro x hx; simp at hx ⊢ <;> omega) (by intro x hx; simp at hx ⊢ <;> omega) (by intro x hx; simp at hx ⊢ <;> omega))
      refine ax_if_ne (q := 27) (x := 29) rfl rfl (fun h => absurd h (by omega)) (fun h24 => ?_)
      refine ax_const (q := 28) (v := am_I 0) rfl rfl rfl ?_
      refine ax_ret (r := some (am_I 0)) rfl ⟨rfl, Or.inl rfl⟩ ?_
      exact hQ.1 _ rfl _ (gl_gx hf_σc (by intro x hx; simp at hx; omega) (by intro x hx; simp at hx; omega) (by intro x hx; simp at hx ⊢; omega)) g0
    · rw [he] at hQ
      simp only [sbr_, sbl_] at hQ
      have hf_σ2 : gx_ [t + 1, t + 19, t + 20, t + 22 + nP] [t + 3] [0, 1, 5, 6, 7, 9] σ σ2 := gx_tr2 hf_σ1 (gx_su hg_σ2 (by intro x hx; simp at hx ⊢ <;> omega) (by intro x hx; simp at hx ⊢ <;> omega) (by intro x hx; simp at hx ⊢ <;> omega))
      have hR2 := hR1.fr hg_σ2 (by simp) (by simp) (by omega) (by omega)
      have hS2 := hS1.fr hg_σ2 (by simp) (by simp) (by omega) (by omega)
      refine ax_if_ne (q := 27) (x := 29) rfl rfl (fun h24 => ?_) (fun h => absurd h (by omega))
      refine ax_load (q := 30) rfl rfl rfl rfl rfl ?_
      refine ax_const (q := 31) (v := am_I 3) rfl rfl rfl ?_
      refine ax_callv (q := 34) rfl rfl rfl rfl rfl rfl ?_
      refine x_old3 (by omega) hC2 hR2 (fun e he σd hg_σd g0 => ?_) (fun a he ha hs1 => ?_)
      · rw [he] at hQ
        simp only [sbr_, sbl_] at hQ
        have hf_σd : gx_ [t + 1, t + 19, t + 20, t + 22 + nP] [t + 3] [0, 1, 5, 6, 7, 9] σ σd := gx_tr2 hf_σ2 (gx_su hg_σd (by intro x hx; simp at hx ⊢ <;> omega) (by intro x hx; simp at hx ⊢ <;> omega) (by intro x hx; simp at hx ⊢ <;> omega))
        refine ax_store (q := 35) (L' := [some (am_R 66), some (am_I ((nP : Nat) : Int)), some (am_I (-1)), none]) rfl rfl rfl rfl rfl rfl ?_
        refine ax_load (q := 36) rfl rfl rfl rfl rfl ?_
        refine ax_const (q := 37) (v := am_I (-1)) rfl rfl rfl ?_
        refine ax_icmp_ne (q := 40) (x := 42) rfl rfl (fun h => absurd rfl h) (fun h37 => ?_)
        refine ax_const (q := 41) (v := am_I 0) rfl rfl rfl ?_
        refine ax_ret (r := some (am_I 0)) rfl ⟨rfl, Or.inl rfl⟩ ?_
        exact hQ.1 _ rfl _ (gl_gx hf_σd (by intro x hx; simp at hx; omega) (by intro x hx; simp at hx; omega) (by intro x hx; simp at hx ⊢; omega)) g0
      · rw [he] at hQ
        simp only [sbr_, sbl_] at hQ
        refine ax_store (q := 35) (L' := [some (am_R 66), some (am_I ((nP : Nat) : Int)), some (am_I ((a : Nat) : Int)), none]) rfl rfl rfl rfl rfl rfl ?_
        refine ax_load (q := 36) rfl rfl rfl rfl rfl ?_
        refine ax_const (q := 37) (v := am_I (-1)) rfl rfl rfl ?_
        refine ax_icmp_ne (q := 40) (x := 42) rfl rfl (fun h37 => ?_) (fun h => absurd h (by omega))
        refine ax_load (q := 43) rfl rfl rfl rfl rfl ?_
        refine ax_getf (q := 46) (v := am_R t) rfl rfl (am_fgR rfl hC2.tn) ?_
        refine ax_getf (q := 49) (v := am_R (t + 19)) rfl rfl (xg7_6 hC.ht) ?_
        refine ax_load (q := 50) rfl rfl rfl rfl rfl ?_
        refine ax_load (q := 51) rfl rfl rfl rfl rfl ?_
        refine bx_iast (q := 52) (k := nP) rfl rfl (kd_19 hC.ht) (by omega) (by omega) ?_
        refine ax_load (q := 53) rfl rfl rfl rfl rfl ?_
        refine ax_callv (q := 56) rfl rfl rfl rfl rfl rfl ?_
        obtain ⟨σ3, e_σ3⟩ : ∃ u, u = (am_sI σ2 (t + 19) (am_up (σ2.1 (t + 19)) nP ((a : Nat) : Int))) := ⟨_, rfl⟩
        show am_Ev _ _ _ (am_sI σ2 (t + 19) (am_up (σ2.1 (t + 19)) nP ((a : Nat) : Int))) _
        rw [← e_σ3]
        have hg_σ3 : gx_ [t + 19] [] [] σ2 σ3 := by rw [e_σ3]; exact gx_A (gx_rf _ _ _ _) (by simp) (by omega)
        have vσ3 : σ3.1 (t + 19) = am_up (σ2.1 (t + 19)) nP a := by rw [e_σ3, sI_at]
        have hf_σ3 : gx_ [t + 1, t + 19, t + 20, t + 22 + nP] [t + 3] [0, 1, 5, 6, 7, 9] σ σ3 := gx_tr2 hf_σ2 (gx_su hg_σ3 (by intro x hx; simp at hx ⊢ <;> omega) (by intro x hx; simp at hx ⊢ <;> omega) (by intro x hx; simp at hx ⊢ <;> omega))
        have hC3 := hC2.fr hg_σ3 (by simp <;> omega) (by simp) (by simp) (by rw [e_σ3]; rfl)
        refine x_nextT (by omega) hC3 (fun e => by rw [hs1] at e; exact absurd e (by decide)) (fun σ4 hg_σ4 hC4 => ?_)
        have hf_σ4 : gx_ [t + 1, t + 19, t + 20, t + 22 + nP] [t + 3] [0, 1, 5, 6, 7, 9] σ σ4 := gx_tr2 hf_σ3 (gx_su hg_σ4 (by intro x hx; simp at hx ⊢ <;> omega) (by intro x hx; simp at hx ⊢ <;> omega) (by intro x hx; simp at hx ⊢ <;> omega))
        refine ax_load (q := 57) rfl rfl rfl rfl rfl ?_
        refine ax_const (q := 59) (v := am_I 10) rfl rfl rfl ?_
        refine ax_callv (q := 62) rfl rfl rfl rfl rfl rfl ?_
        refine x_take (w := 10) (by omega) hC4 (by decide) (fun hk σf hg_σf _ g0 => ?_) (fun hk σ5 hg_σ5 hC5 => ?_)
        · rw [tol_n (i := 10) (w := 6383461) rfl (by omega) hk] at hQ
          simp only [sbr_, sbl_] at hQ
          have hf_σf : gx_ [t + 1, t + 19, t + 20, t + 22 + nP] [t + 3] [0, 1, 5, 6, 7, 9] σ σf := gx_tr2 hf_σ4 (gx_su hg_σf (by intro x hx; simp at hx ⊢ <;> omega) (by intro x hx; simp at hx ⊢ <;> omega) (by intro x hx; simp at hx ⊢ <;> omega))
          refine ax_if_ne (q := 65) (x := 67) rfl rfl (fun h => absurd h (by omega)) (fun h62 => ?_)
          refine ax_const (q := 66) (v := am_I 0) rfl rfl rfl ?_
          refine ax_ret (r := some (am_I 0)) rfl ⟨rfl, Or.inl rfl⟩ ?_
          exact hQ.1 _ rfl _ (gl_gx hf_σf (by intro x hx; simp at hx; omega) (by intro x hx; simp at hx; omega) (by intro x hx; simp at hx ⊢; omega)) g0
        · rw [tol_y (i := 10) (w := 6383461) rfl (by omega) hk] at hQ
          have hf_σ5 : gx_ [t + 1, t + 19, t + 20, t + 22 + nP] [t + 3] [0, 1, 5, 6, 7, 9] σ σ5 := gx_tr2 hf_σ4 (gx_su hg_σ5 (by intro x hx; simp at hx ⊢ <;> omega) (by intro x hx; simp at hx ⊢ <;> omega) (by intro x hx; simp at hx ⊢ <;> omega))
          refine ax_if_ne (q := 65) (x := 67) rfl rfl (fun h62 => ?_) (fun h => absurd h (by omega))
          refine ax_load (q := 68) rfl rfl rfl rfl rfl ?_
          refine ax_const (q := 69) (v := am_I 0) rfl rfl rfl ?_
          refine ax_const (q := 71) (v := am_I 39) rfl rfl rfl ?_
          refine ax_callv (q := 74) rfl rfl rfl rfl rfl rfl ?_
          refine x_num (by omega) hC5 (fun e he σe hg_σe g0 => ?_) (fun b he hb1 hb2 hs2 => ?_)
          · rw [he] at hQ
            simp only [sbr_, sbl_] at hQ
            have hf_σe : gx_ [t + 1, t + 19, t + 20, t + 22 + nP] [t + 3] [0, 1, 5, 6, 7, 9] σ σe := gx_tr2 hf_σ5 (gx_su hg_σe (by intro x hx; simp at hx ⊢ <;> omega) (by intro x hx; simp at hx ⊢ <;> omega) (by intro x hx; simp at hx ⊢ <;> omega))
            refine ax_store (q := 75) (L' := [some (am_R 66), some (am_I ((nP : Nat) : Int)), some (am_I ((a : Nat) : Int)), some (am_I (-1))]) rfl rfl rfl rfl rfl rfl ?_
            refine ax_load (q := 76) rfl rfl rfl rfl rfl ?_
            refine ax_const (q := 77) (v := am_I (-1)) rfl rfl rfl ?_
            refine ax_icmp_ne (q := 80) (x := 82) rfl rfl (fun h => absurd rfl h) (fun h77 => ?_)
            refine ax_const (q := 81) (v := am_I 0) rfl rfl rfl ?_
            refine ax_ret (r := some (am_I 0)) rfl ⟨rfl, Or.inl rfl⟩ ?_
            exact hQ.1 _ rfl _ (gl_gx hf_σe (by intro x hx; simp at hx; omega) (by intro x hx; simp at hx; omega) (by intro x hx; simp at hx ⊢; omega)) g0
          · rw [he] at hQ
            simp only [sbr_, sbl_] at hQ
            refine ax_store (q := 75) (L' := [some (am_R 66), some (am_I ((nP : Nat) : Int)), some (am_I ((a : Nat) : Int)), some (am_I b)]) rfl rfl rfl rfl rfl rfl ?_
            refine ax_load (q := 76) rfl rfl rfl rfl rfl ?_
            refine ax_const (q := 77) (v := am_I (-1)) rfl rfl rfl ?_
            refine ax_icmp_ne (q := 80) (x := 82) rfl rfl (fun h77 => ?_) (fun h => absurd h (by omega))
            refine ax_load (q := 83) rfl rfl rfl rfl rfl ?_
            refine ax_getf (q := 86) (v := am_R t) rfl rfl (am_fgR rfl hC5.tn) ?_
            refine ax_getf (q := 89) (v := am_R (t + 20)) rfl rfl (xg7_7 hC.ht) ?_
            refine ax_load (q := 90) rfl rfl rfl rfl rfl ?_
            refine ax_load (q := 91) rfl rfl rfl rfl rfl ?_
            refine bx_iast (q := 92) (k := nP) rfl rfl (kd_20 hC.ht) (by omega) (by omega) ?_
            refine ax_load (q := 93) rfl rfl rfl rfl rfl ?_
            refine ax_callv (q := 96) rfl rfl rfl rfl rfl rfl ?_
            obtain ⟨σ6, e_σ6⟩ : ∃ u, u = (am_sI σ5 (t + 20) (am_up (σ5.1 (t + 20)) nP b)) := ⟨_, rfl⟩
            show am_Ev _ _ _ (am_sI σ5 (t + 20) (am_up (σ5.1 (t + 20)) nP b)) _
            rw [← e_σ6]
            have hg_σ6 : gx_ [t + 20] [] [] σ5 σ6 := by rw [e_σ6]; exact gx_A (gx_rf _ _ _ _) (by simp) (by omega)
            have vσ6 : σ6.1 (t + 20) = am_up (σ5.1 (t + 20)) nP b := by rw [e_σ6, sI_at]
            have hf_σ6 : gx_ [t + 1, t + 19, t + 20, t + 22 + nP] [t + 3] [0, 1, 5, 6, 7, 9] σ σ6 := gx_tr2 hf_σ5 (gx_su hg_σ6 (by intro x hx; simp at hx ⊢ <;> omega) (by intro x hx; simp at hx ⊢ <;> omega) (by intro x hx; simp at hx ⊢ <;> omega))
            have hC6 := hC5.fr hg_σ6 (by simp <;> omega) (by simp) (by simp) (by rw [e_σ6]; rfl)
            refine x_nextT (by omega) hC6 (fun e => by rw [hs2] at e; exact absurd e (by decide)) (fun σ7 hg_σ7 hC7 => ?_)
            have hf_σ7 : gx_ [t + 1, t + 19, t + 20, t + 22 + nP] [t + 3] [0, 1, 5, 6, 7, 9] σ σ7 := gx_tr2 hf_σ6 (gx_su hg_σ7 (by intro x hx; simp at hx ⊢ <;> omega) (by intro x hx; simp at hx ⊢ <;> omega) (by intro x hx; simp at hx ⊢ <;> omega))
            have hS7 : NM_ (t + 4) (t + 1) 1 (am_up (D 137) (15 + nP) (tkw_ tp n (nxp_ tp n p))) 0 nS σ7 := (((((hS2.fr hg_σ3 (by simp) (by simp <;> omega) (by omega) (by omega)).fr hg_σ4 (by simp) (by simp) (by omega) (by omega)).fr hg_σ5 (by simp) (by simp) (by omega) (by omega)).fr hg_σ6 (by simp) (by simp <;> omega) (by omega) (by omega)).fr hg_σ7 (by simp) (by simp) (by omega) (by omega))
            obtain ⟨D1, hD1⟩ : ∃ u, u = (du_ (du_ (du_ (du_ (du_ (du_ (du_ D 137 (15 + nP) (tkw_ tp n (nxp_ tp n p))) 159 nP (a : Int)) 160 nP b) 161 ((4 * nP) + 0) 0) 161 ((4 * nP) + 1) 0) 161 ((4 * nP) + 2) 0) 161 ((4 * nP) + 3) 0) := ⟨_, rfl⟩
            rw [← hD1] at hQ
            refine ax_load (q := 97) rfl rfl rfl rfl rfl ?_
            refine ax_load (q := 98) rfl rfl rfl rfl rfl ?_
            refine ax_callv (q := 101) rfl rfl rfl rfl rfl rfl ?_
            refine x_readsLevels (D := D1) (by omega) hC7 hm hV.S4 (by rw [hD1, z4_c (by decide)]; exact hS7) (fun s hs => by rw [hD1]; exact z4_ hs) (fun e he σl hg_σl g0 => ?_) (fun pm he hm59 σm hg_σm hCm => ?_) (fun D2 p8 he h59 σ8 hg_σ8 hC8 hv8 => ?_)
            · rw [he] at hQ
              simp only [sbr_, sbl_] at hQ
              have hf_σl : gx_ [t + 1, t + 19, t + 20, t + 22 + nP] [t + 3] [0, 1, 5, 6, 7, 9] σ σl := gx_tr2 hf_σ7 (gx_su hg_σl (by intro x hx; simp at hx ⊢ <;> omega) (by intro x hx; simp at hx ⊢ <;> omega) (by intro x hx; simp at hx ⊢ <;> omega))
              refine ax_if_eq (q := 104) (x := 117) rfl rfl (fun h101 => ?_) (fun h => absurd h (by omega))
              refine ax_const (q := 118) (v := am_I 0) rfl rfl rfl ?_
              refine ax_ret (r := some (am_I 0)) rfl ⟨rfl, Or.inl rfl⟩ ?_
              exact hQ.1 _ rfl _ (gl_gx hf_σl (by intro x hx; simp at hx; omega) (by intro x hx; simp at hx; omega) (by intro x hx; simp at hx ⊢; omega)) g0
            · rw [he] at hQ
              simp only [sbr_, sbl_] at hQ
              have hf_σm : gx_ [t + 1, t + 19, t + 20, t + 22 + nP] [t + 3] [0, 1, 5, 6, 7, 9] σ σm := gx_tr2 hf_σ7 (gx_su hg_σm (by intro x hx; simp at hx ⊢ <;> omega) (by intro x hx; simp at hx ⊢ <;> omega) (by intro x hx; simp at hx ⊢ <;> omega))
              refine ax_if_eq (q := 104) (x := 117) rfl rfl (fun h => absurd h (by omega)) (fun h101 => ?_)
              refine ax_load (q := 105) rfl rfl rfl rfl rfl ?_
              refine ax_const (q := 107) (v := am_I 59) rfl rfl rfl ?_
              refine ax_callv (q := 110) rfl rfl rfl rfl rfl rfl ?_
              refine x_semi (by omega) hCm (fun he2 σs hg_σs g0 => ?_) (fun he2 σz hg_σz hCz => absurd he2 hm59)
              · have hf_σs : gx_ [t + 1, t + 19, t + 20, t + 22 + nP] [t + 3] [0, 1, 5, 6, 7, 9] σ σs := gx_tr2 hf_σm (gx_su hg_σs (by intro x hx; simp at hx ⊢ <;> omega) (by intro x hx; simp at hx ⊢ <;> omega) (by intro x hx; simp at hx ⊢ <;> omega))
                refine ax_if_eq (q := 113) (x := 117) rfl rfl (fun h110 => ?_) (fun h => absurd h (by omega))
                refine ax_const (q := 118) (v := am_I 0) rfl rfl rfl ?_
                refine ax_ret (r := some (am_I 0)) rfl ⟨rfl, Or.inl rfl⟩ ?_
                exact hQ.1 _ rfl _ (gl_gx hf_σs (by intro x hx; simp at hx; omega) (by intro x hx; simp at hx; omega) (by intro x hx; simp at hx ⊢; omega)) g0
            · have hli := lev_in hV.S4 5 _ _ _ he hC7.pn (fun s hs => by rw [hD1, z4_ hs]; exact ⟨by decide, by decide⟩)
              rw [he] at hQ
              simp only [sbr_, sbl_] at hQ
              have hf_σ8 : gx_ [t + 1, t + 19, t + 20, t + 22 + nP] [t + 3] [0, 1, 5, 6, 7, 9] σ σ8 := gx_tr2 hf_σ7 (gx_su hg_σ8 (by intro x hx; simp at hx ⊢ <;> omega) (by intro x hx; simp at hx ⊢ <;> omega) (by intro x hx; simp at hx ⊢ <;> omega))
              refine ax_if_eq (q := 104) (x := 117) rfl rfl (fun h => absurd h (by omega)) (fun h101 => ?_)
              refine ax_load (q := 105) rfl rfl rfl rfl rfl ?_
              refine ax_const (q := 107) (v := am_I 59) rfl rfl rfl ?_
              refine ax_callv (q := 110) rfl rfl rfl rfl rfl rfl ?_
              refine x_semi (by omega) hC8 (fun he2 σs hg_σs g0 => absurd h59 he2) (fun he2 σz hg_σz hCz => ?_)
              · rw [eol_y h59] at hQ
                have hf_σz : gx_ [t + 1, t + 19, t + 20, t + 22 + nP] [t + 3] [0, 1, 5, 6, 7, 9] σ σz := gx_tr2 hf_σ8 (gx_su hg_σz (by intro x hx; simp at hx ⊢ <;> omega) (by intro x hx; simp at hx ⊢ <;> omega) (by intro x hx; simp at hx ⊢ <;> omega))
                refine ax_if_eq (q := 113) (x := 117) rfl rfl (fun h => absurd h (by omega)) (fun h110 => ?_)
                refine ax_const (q := 114) (v := am_I 1) rfl rfl rfl ?_
                refine ax_goto (x := 118) rfl ?_
                refine ax_ret (r := some (am_I 1)) rfl ⟨rfl, Or.inr rfl⟩ ?_
                have w1 : σz.1 (t + 1) = am_up (σ.1 (t + 1)) 0 ((nP + 1 : Nat) : Int) := by rw [hg_σz.1 _ (by simp <;> omega) (by omega), hg_σ8.1 _ (by simp <;> omega) (by omega), hg_σ7.1 _ (by simp <;> omega) (by omega), hg_σ6.1 _ (by simp <;> omega) (by omega), hg_σ5.1 _ (by simp <;> omega) (by omega), hg_σ4.1 _ (by simp <;> omega) (by omega), hg_σ3.1 _ (by simp <;> omega) (by omega), hg_σ2.1 _ (by simp <;> omega) (by omega)]; exact v1
                have w19 : σz.1 (t + 19) = am_up (σ.1 (t + 19)) nP a := by rw [hg_σz.1 _ (by simp <;> omega) (by omega), hg_σ8.1 _ (by simp <;> omega) (by omega), hg_σ7.1 _ (by simp <;> omega) (by omega), hg_σ6.1 _ (by simp <;> omega) (by omega), hg_σ5.1 _ (by simp <;> omega) (by omega), hg_σ4.1 _ (by simp <;> omega) (by omega), vσ3, hg_σ2.1 _ (by simp <;> omega) (by omega), hg_σ1.1 _ (by simp <;> omega) (by omega)]
                have w20 : σz.1 (t + 20) = am_up (σ.1 (t + 20)) nP b := by rw [hg_σz.1 _ (by simp <;> omega) (by omega), hg_σ8.1 _ (by simp <;> omega) (by omega), hg_σ7.1 _ (by simp <;> omega) (by omega), vσ6, hg_σ5.1 _ (by simp <;> omega) (by omega), hg_σ4.1 _ (by simp <;> omega) (by omega), hg_σ3.1 _ (by simp <;> omega) (by omega), hg_σ2.1 _ (by simp <;> omega) (by omega), hg_σ1.1 _ (by simp <;> omega) (by omega)]
                have wl : ∀ s, s < 4 → σz.1 (t + 22 + nP) s = D2 161 (4 * nP + s) := fun s hs => by rw [hg_σz.1 _ (by simp) (by omega)]; exact hv8 s hs
                have wN : NM_ (t + 3) (t + 1) 0 (am_up (D 137) (15 + nP) (tkw_ tp n (nxp_ tp n p))) 15 (nP + 1) σz := hN1.cg (by rw [w1, v1]) (by rw [hg_σz.2.2.1 _ (by simp) (by omega), hg_σ8.2.2.1 _ (by simp) (by omega), hg_σ7.2.2.1 _ (by simp) (by omega), hg_σ6.2.2.1 _ (by simp) (by omega), hg_σ5.2.2.1 _ (by simp) (by omega), hg_σ4.2.2.1 _ (by simp) (by omega), hg_σ3.2.2.1 _ (by simp) (by omega), hg_σ2.2.2.1 _ (by simp) (by omega)]) (fun i hi => rfl) rfl
                exact hQ.2 _ _ rfl _ (gl_gx hf_σz (by intro x hx; simp at hx; omega) (by intro x hx; simp at hx; omega) (by intro x hx; simp at hx ⊢; omega)) hCz (xd_per ht hV hX hf_σz hm (fun c hc => (hli.2.2.1 c hc).trans (by rw [hD1, z4_c hc])) (fun j hj => (hli.2.2.2.1 j hj).trans (by rw [hD1, z4_o hj]; rfl)) w1 wN w19 w20 wl)

