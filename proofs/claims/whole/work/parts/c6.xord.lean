theorem xd_ord {t : Nat} (ht : t = 2 ∨ t = 34) {D : sp_T} {nS nO nR nP nU : Nat} (hV : DW_ D nS nO nR nP nU) {σ σz : am_S} (hX : XD_ t D σ) (hf : gx_ [t + 1, t + 8, t + 9, t + 10, t + 11, t + 12] [t + 5] [0, 1, 5, 6, 7, 9] σ σz) (hm : nO < 8) {w b c x f : Int} {a : Nat} (w1 : σz.1 (t + 1) = am_up (σ.1 (t + 1)) 2 ((nO + 1 : Nat) : Int)) (wN : NM_ (t + 5) (t + 1) 2 (am_up (D 137) (4 + nO) w) 4 (nO + 1) σz) (w8 : σz.1 (t + 8) = am_up (σ.1 (t + 8)) nO (a : Int)) (w9 : σz.1 (t + 9) = am_up (σ.1 (t + 9)) nO b) (w10 : σz.1 (t + 10) = am_up (σ.1 (t + 10)) nO c) (w11 : σz.1 (t + 11) = am_up (σ.1 (t + 11)) nO x) (w12 : σz.1 (t + 12) = am_up (σ.1 (t + 12)) nO f) : XD_ t (du_ (du_ (du_ (du_ (du_ (du_ (du_ (du_ D 137 (4 + nO) w) 145 nO (a : Int)) 146 nO b) 147 nO c) 148 nO x) 149 nO f) 150 nO 0) 135 44 ((nO + 1 : Nat) : Int)) σz := by
  have hO : (D 135 44).toNat = nO := by rw [hV.hO]; rfl
  have hS : (D 135 43).toNat = nS := by rw [hV.hS]; rfl
  have hR : (D 135 45).toNat = nR := by rw [hV.hR]; rfl
  have hP : (D 135 46).toNat = nP := by rw [hV.hP]; rfl
  have hS4 := hV.S4
  have hR3 := hV.R3
  have hP6 := hV.P6
  generalize hD : (du_ (du_ (du_ (du_ (du_ (du_ (du_ (du_ D 137 (4 + nO) w) 145 nO (a : Int)) 146 nO b) 147 nO c) 148 nO x) 149 nO f) 150 nO 0) 135 44 ((nO + 1 : Nat) : Int)) = D'
  have d137 : D' 137 = am_up (D 137) (4 + nO) w := by rw [← hD]; rfl
  have d145 : D' 145 = am_up (D 145) nO (a : Int) := by rw [← hD]; rfl
  have d146 : D' 146 = am_up (D 146) nO b := by rw [← hD]; rfl
  have d147 : D' 147 = am_up (D 147) nO c := by rw [← hD]; rfl
  have d148 : D' 148 = am_up (D 148) nO x := by rw [← hD]; rfl
  have d149 : D' 149 = am_up (D 149) nO f := by rw [← hD]; rfl
  have d150 : D' 150 = am_up (D 150) nO 0 := by rw [← hD]; rfl
  have d44 : D' 135 44 = ((nO + 1 : Nat) : Int) := by rw [← hD]; rfl
  have d135 : ∀ k, k ≠ 44 → D' 135 k = D 135 k := fun k hk => by rw [← hD, du_s, am_up_ne hk]; rfl
  have dr : ∀ a, 138 ≤ a → (a < 145 ∨ 150 < a) → D' a = D a := fun a h1 h2 => by rw [← hD]; rw [du_o (by omega), du_o (by omega), du_o (by omega), du_o (by omega), du_o (by omega), du_o (by omega), du_o (by omega), du_o (by omega)]
  clear hD
  have hO' : (D' 135 44).toNat = nO + 1 := by rw [d44]; rfl
  refine ⟨⟨?_, ?_, ?_, ?_⟩, ?_, ?_, ?_, ?_, ?_, ?_⟩
  · exact hX.1.1.cg (by rw [w1, am_up_ne (by decide)]) (hf.2.2.1 _ (by simp) (by omega)) (fun i hi => by rw [d137, am_up_ne (by omega)]) (by rw [d135 _ (by decide)])
  · rw [hO', d137]
    exact wN
  · exact hX.1.2.2.1.cg (by rw [w1, am_up_ne (by decide)]) (hf.2.2.1 _ (by simp) (by omega)) (fun i hi => by rw [d137, am_up_ne (by omega)]) (by rw [d135 _ (by decide)])
  · exact hX.1.2.2.2.cg (by rw [w1, am_up_ne (by decide)]) (hf.2.2.1 _ (by simp) (by omega)) (fun i hi => by rw [d137, am_up_ne (by omega)]) (by rw [d135 _ (by decide)])
  · intro o ho
    have h0 := hX.2.1 o ho
    rw [hO] at h0
    rw [hO', w8, w9, w10, w11, w12, d145, d146, d147, d148, d149, d150, hf.1 (t + 13) (by simp) (by omega), hf.1 (t + 14) (by simp) (by omega)]
    refine ⟨fun h => ?_, fun h => h0.2.1 (by omega), ?_⟩
    · by_cases q : o = nO
      · subst q
        rw [am_up_same, am_up_same, am_up_same, am_up_same, am_up_same, am_up_same, am_up_same, am_up_same, am_up_same, am_up_same, am_up_same]
        exact ⟨rfl, rfl, rfl, rfl, rfl, h0.2.1 (Nat.le_refl _)⟩
      · rw [am_up_ne q, am_up_ne q, am_up_ne q, am_up_ne q, am_up_ne q, am_up_ne q, am_up_ne q, am_up_ne q, am_up_ne q, am_up_ne q, am_up_ne q]
        exact h0.1 (by omega)
    · rw [h0.2.2]
      have e1 : bi_ (nO + 1) (fun u => tb_ (am_up (D 150) nO 0 u) o) = bi_ nO (fun u => tb_ (D 150 u) o) := by
        show (bi_ nO (fun u => tb_ (am_up (D 150) nO 0 u) o)) + (if tb_ (am_up (D 150) nO 0 nO) o then 2 ^ nO else 0) = _
        rw [bi_eq nO (fun k hk => by rw [am_up_ne (show k ≠ nO by omega)] : ∀ k, k < nO → tb_ (am_up (D 150) nO 0 k) o = tb_ (D 150 k) o), am_up_same]
        simp [tb_]
      rw [e1]
  · exact hX.2.2.1.cg (fun r hr => hf.1 _ (by simp; omega) (by omega)) (dr _ (by decide) (by decide)) (d135 _ (by decide))
  · exact hX.2.2.2.1.cg (by omega) (fun a h1 h2 => hf.1 _ (by simp; omega) (by omega)) (fun a h1 h2 => dr _ (by omega) (by omega)) (d135 _ (by decide))
  · exact hX.2.2.2.2.1.cg (hf.1 _ (by simp) (by omega)) (by rw [w1, am_up_ne (by decide)]) (d135 _ (by decide)) (d135 _ (by decide)) (d135 _ (by decide))
  · exact hX.2.2.2.2.2.1.cg (fun a h1 h2 => hf.1 _ (by simp; omega) (by omega)) (d135 _ (by decide)) (d135 _ (by decide)) (d135 _ (by decide)) (dr _ (by decide) (by decide)) (dr _ (by decide) (by decide))
  · exact hX.2.2.2.2.2.2.cg (hf.2.1 _ (by decide)) (d135 _ (by decide)) (d135 _ (by decide)) (d135 _ (by decide))

theorem x_readsOrder {d : Nat} (hd : 6 ≤ d) {σ : am_S} {tp : Nat → Int} {n t p : Nat} (hC : RC_ tp n t p σ) (h3 : tks_ tp n p ≠ 3) {D : sp_T} {nS nO nR nP nU : Nat} (hV : DW_ D nS nO nR nP nU) (hX : XD_ t D σ) {Q : Option am_V → am_S → Prop} (hF : 8 ≤ nO → ∀ σ', gl_ t σ σ' → FX_ tp n (2, p) σ' → Q (some (am_I 0)) σ') (hQ : nO < 8 → LX_ tp n t (sb_ (ord_ tp n D nO nS p) (eol_ tp n)) σ Q) : am_Ev d 43 [am_R 66] σ Q := by
  obtain ⟨d, rfl⟩ : ∃ e, d = e + 1 := ⟨d - 1, by omega⟩
  have ht := hC.ht
  have hO : (D 135 44).toNat = nO := by rw [hV.hO]; rfl
  have hS : (D 135 43).toNat = nS := by rw [hV.hS]; rfl
  have hO8 := hV.O8
  have hNO : NM_ (t + 5) (t + 1) 2 (D 137) 4 nO σ := by have h := hX.1.2.1; rw [hO] at h; exact h
  refine ev_in (m := 43) (c := k_X4_readsOrder) (L := [some (am_R 66), none, none, none]) rfl rfl rfl rfl rfl rfl ?_
  refine ax_load (q := 1) rfl rfl rfl rfl rfl ?_
  refine ax_getf (q := 4) (v := am_R t) rfl rfl (am_fgR rfl hC.tn) ?_
  refine ax_getf (q := 7) (v := am_R (t + 1)) rfl rfl (xg7_0 hC.ht) ?_
  refine ax_const (q := 8) (v := am_I 2) rfl rfl rfl ?_
  refine bx_iald (q := 9) (k := 2) (z := ((nO : Nat) : Int)) rfl rfl (kd_1 hC.ht) (by omega) (by omega) (hNO.1) ?_
  refine ax_store (q := 10) (L' := [some (am_R 66), some (am_I ((nO : Nat) : Int)), none, none]) rfl rfl rfl rfl rfl rfl ?_
  refine ax_load (q := 11) rfl rfl rfl rfl rfl ?_
  refine ax_const (q := 12) (v := am_I 2) rfl rfl rfl ?_
  refine ax_callv (q := 15) rfl rfl rfl rfl rfl rfl ?_
  refine x_named2 (by omega) hC h3 hNO (fun hm σa hg_σa g0 => ?_) (fun hm e he σb hg_σb g0 => ?_) (fun hm he σ1 hg_σ1 v1 hN1 hC1 => ?_)
  · have hf_σa : gx_ [t + 1, t + 8, t + 9, t + 10, t + 11, t + 12] [t + 5] [0, 1, 5, 6, 7, 9] σ σa := gx_tr2 (gx_rf _ _ _ σ) (gx_su hg_σa (by intro x hx; simp at hx ⊢ <;> omega) (by intro x hx; simp at hx ⊢ <;> omega) (by intro x hx; simp at hx ⊢ <;> omega))
    refine ax_if_eq (q := 18) (x := 26) rfl rfl (fun h15 => ?_) (fun h => absurd h (by omega))
    refine ax_const (q := 27) (v := am_I 0) rfl rfl rfl ?_
    refine ax_ret (r := some (am_I 0)) rfl ⟨rfl, Or.inl rfl⟩ ?_
    exact hF (by omega) _ (gl_gx hf_σa (by intro x hx; simp at hx; omega) (by intro x hx; simp at hx; omega) (by intro x hx; simp at hx ⊢; omega)) g0
  · have hf_σb : gx_ [t + 1, t + 8, t + 9, t + 10, t + 11, t + 12] [t + 5] [0, 1, 5, 6, 7, 9] σ σb := gx_tr2 (gx_rf _ _ _ σ) (gx_su hg_σb (by intro x hx; simp at hx ⊢ <;> omega) (by intro x hx; simp at hx ⊢ <;> omega) (by intro x hx; simp at hx ⊢ <;> omega))
    refine ax_if_eq (q := 18) (x := 26) rfl rfl (fun h15 => ?_) (fun h => absurd h (by omega))
    refine ax_const (q := 27) (v := am_I 0) rfl rfl rfl ?_
    refine ax_ret (r := some (am_I 0)) rfl ⟨rfl, Or.inl rfl⟩ ?_
    replace hQ := hQ hm
    unfold ord_ at hQ
    rw [he] at hQ
    simp only [sbr_, sbl_] at hQ
    exact hQ.1 _ rfl _ (gl_gx hf_σb (by intro x hx; simp at hx; omega) (by intro x hx; simp at hx; omega) (by intro x hx; simp at hx ⊢; omega)) g0
  · replace hQ := hQ hm
    unfold ord_ at hQ
    rw [he] at hQ
    simp only [sbr_, sbl_] at hQ
    have hf_σ1 : gx_ [t + 1, t + 8, t + 9, t + 10, t + 11, t + 12] [t + 5] [0, 1, 5, 6, 7, 9] σ σ1 := gx_tr2 (gx_rf _ _ _ σ) (gx_su hg_σ1 (by intro x hx; simp at hx ⊢ <;> omega) (by intro x hx; simp at hx ⊢ <;> omega) (by intro x hx; simp at hx ⊢ <;> omega))
    have hS1 : NM_ (t + 4) (t + 1) 1 (am_up (D 137) (4 + nO) (tkw_ tp n (nxp_ tp n p))) 0 nS σ1 := (hX.1.1.cg (by rw [v1, am_up_ne (by decide)]) (hg_σ1.2.2.1 _ (by simp) (by omega)) (fun i hi => am_up_ne (by have := hX.1.1.2.1; rw [hS] at hi; have := hV.S4; omega)) hS.symm)
    refine ax_if_eq (q := 18) (x := 26) rfl rfl (fun h => absurd h (by omega)) (fun h15 => ?_)
    refine ax_load (q := 19) rfl rfl rfl rfl rfl ?_
    refine ax_const (q := 20) (v := am_I 2) rfl rfl rfl ?_
    refine ax_callv (q := 23) rfl rfl rfl rfl rfl rfl ?_
    refine x_wan (i := 2) (by omega) hC1 (w := 1634954099) rfl (by omega) rfl (fun e he σc hg_σc g0 => ?_) (fun he hkx σ2 hg_σ2 hC2 => ?_)
    · rw [he] at hQ
      simp only [sbr_, sbl_] at hQ
      have hf_σc : gx_ [t + 1, t + 8, t + 9, t + 10, t + 11, t + 12] [t + 5] [0, 1, 5, 6, 7, 9] σ σc := gx_tr2 hf_σ1 (gx_su hg_σc (by intro x hx; simp at hx ⊢ <;> omega) (by intro x hx; simp at hx ⊢ <;> omega) (by intro x hx; simp at hx ⊢ <;> omega))
      refine ax_if_ne (q := 26) (x := 28) rfl rfl (fun h => absurd h (by omega)) (fun h23 => ?_)
      refine ax_const (q := 27) (v := am_I 0) rfl rfl rfl ?_
      refine ax_ret (r := some (am_I 0)) rfl ⟨rfl, Or.inl rfl⟩ ?_
      exact hQ.1 _ rfl _ (gl_gx hf_σc (by intro x hx; simp at hx; omega) (by intro x hx; simp at hx; omega) (by intro x hx; simp at hx ⊢; omega)) g0
    · rw [he] at hQ
      simp only [sbr_, sbl_] at hQ
      have hf_σ2 : gx_ [t + 1, t + 8, t + 9, t + 10, t + 11, t + 12] [t + 5] [0, 1, 5, 6, 7, 9] σ σ2 := gx_tr2 hf_σ1 (gx_su hg_σ2 (by intro x hx; simp at hx ⊢ <;> omega) (by intro x hx; simp at hx ⊢ <;> omega) (by intro x hx; simp at hx ⊢ <;> omega))
      have hS2 := hS1.fr hg_σ2 (by simp) (by simp) (by omega) (by omega)
      refine ax_if_ne (q := 26) (x := 28) rfl rfl (fun h23 => ?_) (fun h => absurd h (by omega))
      refine ax_load (q := 29) rfl rfl rfl rfl rfl ?_
      refine ax_const (q := 30) (v := am_I 1) rfl rfl rfl ?_
      refine ax_callv (q := 33) rfl rfl rfl rfl rfl rfl ?_
      refine x_old1 (by omega) hC2 hS2 (fun e he σd hg_σd g0 => ?_) (fun a he ha hs1 => ?_)
      · rw [he] at hQ
        simp only [sbr_, sbl_] at hQ
        have hf_σd : gx_ [t + 1, t + 8, t + 9, t + 10, t + 11, t + 12] [t + 5] [0, 1, 5, 6, 7, 9] σ σd := gx_tr2 hf_σ2 (gx_su hg_σd (by intro x hx; simp at hx ⊢ <;> omega) (by intro x hx; simp at hx ⊢ <;> omega) (by intro x hx; simp at hx ⊢ <;> omega))
        refine ax_store (q := 34) (L' := [some (am_R 66), some (am_I ((nO : Nat) : Int)), some (am_I (-1)), none]) rfl rfl rfl rfl rfl rfl ?_
        refine ax_load (q := 35) rfl rfl rfl rfl rfl ?_
        refine ax_const (q := 36) (v := am_I (-1)) rfl rfl rfl ?_
        refine ax_icmp_ne (q := 39) (x := 41) rfl rfl (fun h => absurd rfl h) (fun h36 => ?_)
        refine ax_const (q := 40) (v := am_I 0) rfl rfl rfl ?_
        refine ax_ret (r := some (am_I 0)) rfl ⟨rfl, Or.inl rfl⟩ ?_
        exact hQ.1 _ rfl _ (gl_gx hf_σd (by intro x hx; simp at hx; omega) (by intro x hx; simp at hx; omega) (by intro x hx; simp at hx ⊢; omega)) g0
      · rw [he] at hQ
        simp only [sbr_, sbl_] at hQ
        refine ax_store (q := 34) (L' := [some (am_R 66), some (am_I ((nO : Nat) : Int)), some (am_I ((a : Nat) : Int)), none]) rfl rfl rfl rfl rfl rfl ?_
        refine ax_load (q := 35) rfl rfl rfl rfl rfl ?_
        refine ax_const (q := 36) (v := am_I (-1)) rfl rfl rfl ?_
        refine ax_icmp_ne (q := 39) (x := 41) rfl rfl (fun h36 => ?_) (fun h => absurd h (by omega))
        refine ax_load (q := 42) rfl rfl rfl rfl rfl ?_
        refine ax_getf (q := 45) (v := am_R t) rfl rfl (am_fgR rfl hC2.tn) ?_
        refine ax_getf (q := 48) (v := am_R (t + 7)) rfl rfl (xg7_2 hC.ht) ?_
        refine ax_const (q := 49) (v := am_I 0) rfl rfl rfl ?_
        refine bx_aald (q := 50) (k := 0) (z := t + 8) rfl rfl (Or.inl (kd_7 hC.ht)) (by omega) (by omega) (by omega) ?_
        refine ax_load (q := 51) rfl rfl rfl rfl rfl ?_
        refine ax_load (q := 52) rfl rfl rfl rfl rfl ?_
        refine bx_iast (q := 53) (k := nO) rfl rfl (kd_8 hC.ht) (by omega) (by omega) ?_
        refine ax_load (q := 54) rfl rfl rfl rfl rfl ?_
        refine ax_callv (q := 57) rfl rfl rfl rfl rfl rfl ?_
        obtain ⟨σ3, e_σ3⟩ : ∃ u, u = (am_sI σ2 (t + 8) (am_up (σ2.1 (t + 8)) nO ((a : Nat) : Int))) := ⟨_, rfl⟩
        show am_Ev _ _ _ (am_sI σ2 (t + 8) (am_up (σ2.1 (t + 8)) nO ((a : Nat) : Int))) _
        rw [← e_σ3]
        have hg_σ3 : gx_ [t + 8] [] [] σ2 σ3 := by rw [e_σ3]; exact gx_A (gx_rf _ _ _ _) (by simp) (by omega)
        have vσ3 : σ3.1 (t + 8) = am_up (σ2.1 (t + 8)) nO a := by rw [e_σ3, sI_at]
        have hf_σ3 : gx_ [t + 1, t + 8, t + 9, t + 10, t + 11, t + 12] [t + 5] [0, 1, 5, 6, 7, 9] σ σ3 := gx_tr2 hf_σ2 (gx_su hg_σ3 (by intro x hx; simp at hx ⊢ <;> omega) (by intro x hx; simp at hx ⊢ <;> omega) (by intro x hx; simp at hx ⊢ <;> omega))
        have hC3 := hC2.fr hg_σ3 (by simp <;> omega) (by simp) (by simp) (by rw [e_σ3]; rfl)
        refine x_nextT (by omega) hC3 (fun e => by rw [hs1] at e; exact absurd e (by decide)) (fun σ4 hg_σ4 hC4 => ?_)
        have hf_σ4 : gx_ [t + 1, t + 8, t + 9, t + 10, t + 11, t + 12] [t + 5] [0, 1, 5, 6, 7, 9] σ σ4 := gx_tr2 hf_σ3 (gx_su hg_σ4 (by intro x hx; simp at hx ⊢ <;> omega) (by intro x hx; simp at hx ⊢ <;> omega) (by intro x hx; simp at hx ⊢ <;> omega))
        refine ax_load (q := 58) rfl rfl rfl rfl rfl ?_
        refine ax_const (q := 59) (v := am_I 0) rfl rfl rfl ?_
        refine ax_const (q := 61) (v := am_I 20) rfl rfl rfl ?_
        refine ax_callv (q := 64) rfl rfl rfl rfl rfl rfl ?_
        refine x_num (by omega) hC4 (fun e he σe hg_σe g0 => ?_) (fun b he hb1 hb2 hs2 => ?_)
        · rw [he] at hQ
          simp only [sbr_, sbl_] at hQ
          have hf_σe : gx_ [t + 1, t + 8, t + 9, t + 10, t + 11, t + 12] [t + 5] [0, 1, 5, 6, 7, 9] σ σe := gx_tr2 hf_σ4 (gx_su hg_σe (by intro x hx; simp at hx ⊢ <;> omega) (by intro x hx; simp at hx ⊢ <;> omega) (by intro x hx; simp at hx ⊢ <;> omega))
          refine ax_store (q := 65) (L' := [some (am_R 66), some (am_I ((nO : Nat) : Int)), some (am_I ((a : Nat) : Int)), some (am_I (-1))]) rfl rfl rfl rfl rfl rfl ?_
          refine ax_load (q := 66) rfl rfl rfl rfl rfl ?_
          refine ax_const (q := 67) (v := am_I (-1)) rfl rfl rfl ?_
          refine ax_icmp_ne (q := 70) (x := 72) rfl rfl (fun h => absurd rfl h) (fun h67 => ?_)
          refine ax_const (q := 71) (v := am_I 0) rfl rfl rfl ?_
          refine ax_ret (r := some (am_I 0)) rfl ⟨rfl, Or.inl rfl⟩ ?_
          exact hQ.1 _ rfl _ (gl_gx hf_σe (by intro x hx; simp at hx; omega) (by intro x hx; simp at hx; omega) (by intro x hx; simp at hx ⊢; omega)) g0
        · rw [he] at hQ
          simp only [sbr_, sbl_] at hQ
          refine ax_store (q := 65) (L' := [some (am_R 66), some (am_I ((nO : Nat) : Int)), some (am_I ((a : Nat) : Int)), some (am_I b)]) rfl rfl rfl rfl rfl rfl ?_
          refine ax_load (q := 66) rfl rfl rfl rfl rfl ?_
          refine ax_const (q := 67) (v := am_I (-1)) rfl rfl rfl ?_
          refine ax_icmp_ne (q := 70) (x := 72) rfl rfl (fun h67 => ?_) (fun h => absurd h (by omega))
          refine ax_load (q := 73) rfl rfl rfl rfl rfl ?_
          refine ax_getf (q := 76) (v := am_R t) rfl rfl (am_fgR rfl hC4.tn) ?_
          refine ax_getf (q := 79) (v := am_R (t + 7)) rfl rfl (xg7_2 hC.ht) ?_
          refine ax_const (q := 80) (v := am_I 1) rfl rfl rfl ?_
          refine bx_aald (q := 81) (k := 1) (z := t + 9) rfl rfl (Or.inl (kd_7 hC.ht)) (by omega) (by omega) (by omega) ?_
          refine ax_load (q := 82) rfl rfl rfl rfl rfl ?_
          refine ax_load (q := 83) rfl rfl rfl rfl rfl ?_
          refine bx_iast (q := 84) (k := nO) rfl rfl (kd_9 hC.ht) (by omega) (by omega) ?_
          refine ax_load (q := 85) rfl rfl rfl rfl rfl ?_
          refine ax_callv (q := 88) rfl rfl rfl rfl rfl rfl ?_
          obtain ⟨σ5, e_σ5⟩ : ∃ u, u = (am_sI σ4 (t + 9) (am_up (σ4.1 (t + 9)) nO b)) := ⟨_, rfl⟩
          show am_Ev _ _ _ (am_sI σ4 (t + 9) (am_up (σ4.1 (t + 9)) nO b)) _
          rw [← e_σ5]
          have hg_σ5 : gx_ [t + 9] [] [] σ4 σ5 := by rw [e_σ5]; exact gx_A (gx_rf _ _ _ _) (by simp) (by omega)
          have vσ5 : σ5.1 (t + 9) = am_up (σ4.1 (t + 9)) nO b := by rw [e_σ5, sI_at]
          have hf_σ5 : gx_ [t + 1, t + 8, t + 9, t + 10, t + 11, t + 12] [t + 5] [0, 1, 5, 6, 7, 9] σ σ5 := gx_tr2 hf_σ4 (gx_su hg_σ5 (by intro x hx; simp at hx ⊢ <;> omega) (by intro x hx; simp at hx ⊢ <;> omega) (by intro x hx; simp at hx ⊢ <;> omega))
          have hC5 := hC4.fr hg_σ5 (by simp <;> omega) (by simp) (by simp) (by rw [e_σ5]; rfl)
          refine x_nextT (by omega) hC5 (fun e => by rw [hs2] at e; exact absurd e (by decide)) (fun σ6 hg_σ6 hC6 => ?_)
          have hf_σ6 : gx_ [t + 1, t + 8, t + 9, t + 10, t + 11, t + 12] [t + 5] [0, 1, 5, 6, 7, 9] σ σ6 := gx_tr2 hf_σ5 (gx_su hg_σ6 (by intro x hx; simp at hx ⊢ <;> omega) (by intro x hx; simp at hx ⊢ <;> omega) (by intro x hx; simp at hx ⊢ <;> omega))
          have k6 : σ6.1 (t + 1) 2 = ((nO + 1 : Nat) : Int) := by rw [hg_σ6.1 _ (by simp) (by omega), hg_σ5.1 _ (by simp) (by omega), hg_σ4.1 _ (by simp) (by omega), hg_σ3.1 _ (by simp) (by omega), hg_σ2.1 _ (by simp) (by omega), v1, am_up_same]
          refine ax_load (q := 89) rfl rfl rfl rfl rfl ?_
          refine ax_const (q := 90) (v := am_I 3) rfl rfl rfl ?_
          refine ax_const (q := 91) (v := am_I 2) rfl rfl rfl ?_
          refine ax_const (q := 92) (v := am_I 0) rfl rfl rfl ?_
          refine ax_callv (q := 95) rfl rfl rfl rfl rfl rfl ?_
          refine x_readsTrait3 (by omega) hC6 k6 (by omega) (fun e he σt3 hg_σt3 g0 => ?_) (fun c p7 he σ7 hg_σ7 vσ7 hC7 => ?_)
          · rw [he] at hQ
            simp only [sbr_, sbl_] at hQ
            have hf_σt3 : gx_ [t + 1, t + 8, t + 9, t + 10, t + 11, t + 12] [t + 5] [0, 1, 5, 6, 7, 9] σ σt3 := gx_tr2 hf_σ6 (gx_su hg_σt3 (by intro x hx; simp at hx ⊢ <;> omega) (by intro x hx; simp at hx ⊢ <;> omega) (by intro x hx; simp at hx ⊢ <;> omega))
            refine ax_if_eq (q := 98) (x := 131) rfl rfl (fun h95 => ?_) (fun h => absurd h (by omega))
            refine ax_const (q := 132) (v := am_I 0) rfl rfl rfl ?_
            refine ax_ret (r := some (am_I 0)) rfl ⟨rfl, Or.inl rfl⟩ ?_
            exact hQ.1 _ rfl _ (gl_gx hf_σt3 (by intro x hx; simp at hx; omega) (by intro x hx; simp at hx; omega) (by intro x hx; simp at hx ⊢; omega)) g0
          · rw [he] at hQ
            simp only [sbr_, sbl_] at hQ
            have hf_σ7 : gx_ [t + 1, t + 8, t + 9, t + 10, t + 11, t + 12] [t + 5] [0, 1, 5, 6, 7, 9] σ σ7 := gx_tr2 hf_σ6 (gx_su hg_σ7 (by intro x hx; simp at hx ⊢ <;> omega) (by intro x hx; simp at hx ⊢ <;> omega) (by intro x hx; simp at hx ⊢ <;> omega))
            have k7 : σ7.1 (t + 1) 2 = ((nO + 1 : Nat) : Int) := by rw [hg_σ7.1 _ (by simp) (by omega)]; exact k6
            refine ax_if_eq (q := 98) (x := 131) rfl rfl (fun h => absurd h (by omega)) (fun h95 => ?_)
            refine ax_load (q := 99) rfl rfl rfl rfl rfl ?_
            refine ax_const (q := 100) (v := am_I 4) rfl rfl rfl ?_
            refine ax_const (q := 101) (v := am_I 3) rfl rfl rfl ?_
            refine ax_const (q := 102) (v := am_I 0) rfl rfl rfl ?_
            refine ax_callv (q := 105) rfl rfl rfl rfl rfl rfl ?_
            refine x_readsTrait4 (by omega) hC7 k7 (by omega) (fun e he σt4 hg_σt4 g0 => ?_) (fun x p8 he σ8 hg_σ8 vσ8 hC8 => ?_)
            · rw [he] at hQ
              simp only [sbr_, sbl_] at hQ
              have hf_σt4 : gx_ [t + 1, t + 8, t + 9, t + 10, t + 11, t + 12] [t + 5] [0, 1, 5, 6, 7, 9] σ σt4 := gx_tr2 hf_σ7 (gx_su hg_σt4 (by intro x hx; simp at hx ⊢ <;> omega) (by intro x hx; simp at hx ⊢ <;> omega) (by intro x hx; simp at hx ⊢ <;> omega))
              refine ax_if_eq (q := 108) (x := 131) rfl rfl (fun h105 => ?_) (fun h => absurd h (by omega))
              refine ax_const (q := 132) (v := am_I 0) rfl rfl rfl ?_
              refine ax_ret (r := some (am_I 0)) rfl ⟨rfl, Or.inl rfl⟩ ?_
              exact hQ.1 _ rfl _ (gl_gx hf_σt4 (by intro x hx; simp at hx; omega) (by intro x hx; simp at hx; omega) (by intro x hx; simp at hx ⊢; omega)) g0
            · rw [he] at hQ
              simp only [sbr_, sbl_] at hQ
              have hf_σ8 : gx_ [t + 1, t + 8, t + 9, t + 10, t + 11, t + 12] [t + 5] [0, 1, 5, 6, 7, 9] σ σ8 := gx_tr2 hf_σ7 (gx_su hg_σ8 (by intro x hx; simp at hx ⊢ <;> omega) (by intro x hx; simp at hx ⊢ <;> omega) (by intro x hx; simp at hx ⊢ <;> omega))
              have k8 : σ8.1 (t + 1) 2 = ((nO + 1 : Nat) : Int) := by rw [hg_σ8.1 _ (by simp) (by omega)]; exact k7
              refine ax_if_eq (q := 108) (x := 131) rfl rfl (fun h => absurd h (by omega)) (fun h105 => ?_)
              refine ax_load (q := 109) rfl rfl rfl rfl rfl ?_
              refine ax_const (q := 110) (v := am_I 5) rfl rfl rfl ?_
              refine ax_const (q := 111) (v := am_I 4) rfl rfl rfl ?_
              refine ax_const (q := 112) (v := am_I 1) rfl rfl rfl ?_
              refine ax_callv (q := 115) rfl rfl rfl rfl rfl rfl ?_
              refine x_readsTrait5 (by omega) hC8 k8 (by omega) (fun e he σt5 hg_σt5 g0 => ?_) (fun f p9 he σ9 hg_σ9 vσ9 hC9 => ?_)
              · rw [he] at hQ
                simp only [sbr_, sbl_] at hQ
                have hf_σt5 : gx_ [t + 1, t + 8, t + 9, t + 10, t + 11, t + 12] [t + 5] [0, 1, 5, 6, 7, 9] σ σt5 := gx_tr2 hf_σ8 (gx_su hg_σt5 (by intro x hx; simp at hx ⊢ <;> omega) (by intro x hx; simp at hx ⊢ <;> omega) (by intro x hx; simp at hx ⊢ <;> omega))
                refine ax_if_eq (q := 118) (x := 131) rfl rfl (fun h115 => ?_) (fun h => absurd h (by omega))
                refine ax_const (q := 132) (v := am_I 0) rfl rfl rfl ?_
                refine ax_ret (r := some (am_I 0)) rfl ⟨rfl, Or.inl rfl⟩ ?_
                exact hQ.1 _ rfl _ (gl_gx hf_σt5 (by intro x hx; simp at hx; omega) (by intro x hx; simp at hx; omega) (by intro x hx; simp at hx ⊢; omega)) g0
              · rw [he] at hQ
                simp only [sbr_, sbl_] at hQ
                have hf_σ9 : gx_ [t + 1, t + 8, t + 9, t + 10, t + 11, t + 12] [t + 5] [0, 1, 5, 6, 7, 9] σ σ9 := gx_tr2 hf_σ8 (gx_su hg_σ9 (by intro x hx; simp at hx ⊢ <;> omega) (by intro x hx; simp at hx ⊢ <;> omega) (by intro x hx; simp at hx ⊢ <;> omega))
                have k9 : σ9.1 (t + 1) 2 = ((nO + 1 : Nat) : Int) := by rw [hg_σ9.1 _ (by simp) (by omega)]; exact k8
                refine ax_if_eq (q := 118) (x := 131) rfl rfl (fun h => absurd h (by omega)) (fun h115 => ?_)
                refine ax_load (q := 119) rfl rfl rfl rfl rfl ?_
                refine ax_const (q := 121) (v := am_I 59) rfl rfl rfl ?_
                refine ax_callv (q := 124) rfl rfl rfl rfl rfl rfl ?_
                refine x_semi (by omega) hC9 (fun he σs hg_σs g0 => ?_) (fun he σz hg_σz hCz => ?_)
                · rw [eol_n he] at hQ
                  have hf_σs : gx_ [t + 1, t + 8, t + 9, t + 10, t + 11, t + 12] [t + 5] [0, 1, 5, 6, 7, 9] σ σs := gx_tr2 hf_σ9 (gx_su hg_σs (by intro x hx; simp at hx ⊢ <;> omega) (by intro x hx; simp at hx ⊢ <;> omega) (by intro x hx; simp at hx ⊢ <;> omega))
                  refine ax_if_eq (q := 127) (x := 131) rfl rfl (fun h124 => ?_) (fun h => absurd h (by omega))
                  refine ax_const (q := 132) (v := am_I 0) rfl rfl rfl ?_
                  refine ax_ret (r := some (am_I 0)) rfl ⟨rfl, Or.inl rfl⟩ ?_
                  exact hQ.1 _ rfl _ (gl_gx hf_σs (by intro x hx; simp at hx; omega) (by intro x hx; simp at hx; omega) (by intro x hx; simp at hx ⊢; omega)) g0
                · rw [eol_y he] at hQ
                  have hf_σz : gx_ [t + 1, t + 8, t + 9, t + 10, t + 11, t + 12] [t + 5] [0, 1, 5, 6, 7, 9] σ σz := gx_tr2 hf_σ9 (gx_su hg_σz (by intro x hx; simp at hx ⊢ <;> omega) (by intro x hx; simp at hx ⊢ <;> omega) (by intro x hx; simp at hx ⊢ <;> omega))
                  refine ax_if_eq (q := 127) (x := 131) rfl rfl (fun h => absurd h (by omega)) (fun h124 => ?_)
                  refine ax_const (q := 128) (v := am_I 1) rfl rfl rfl ?_
                  refine ax_goto (x := 132) rfl ?_
                  refine ax_ret (r := some (am_I 1)) rfl ⟨rfl, Or.inr rfl⟩ ?_
                  have w1 : σz.1 (t + 1) = am_up (σ.1 (t + 1)) 2 ((nO + 1 : Nat) : Int) := by rw [hg_σz.1 _ (by simp) (by omega), hg_σ9.1 _ (by simp) (by omega), hg_σ8.1 _ (by simp) (by omega), hg_σ7.1 _ (by simp) (by omega), hg_σ6.1 _ (by simp) (by omega), hg_σ5.1 _ (by simp) (by omega), hg_σ4.1 _ (by simp) (by omega), hg_σ3.1 _ (by simp) (by omega), hg_σ2.1 _ (by simp) (by omega)]; exact v1
                  have w8 : σz.1 (t + 8) = am_up (σ.1 (t + 8)) nO a := by rw [hg_σz.1 _ (by simp) (by omega), hg_σ9.1 _ (by simp) (by omega), hg_σ8.1 _ (by simp) (by omega), hg_σ7.1 _ (by simp) (by omega), hg_σ6.1 _ (by simp) (by omega), hg_σ5.1 _ (by simp) (by omega), hg_σ4.1 _ (by simp) (by omega), vσ3, hg_σ2.1 _ (by simp) (by omega), hg_σ1.1 _ (by simp) (by omega)]
                  have w9 : σz.1 (t + 9) = am_up (σ.1 (t + 9)) nO b := by rw [hg_σz.1 _ (by simp) (by omega), hg_σ9.1 _ (by simp) (by omega), hg_σ8.1 _ (by simp) (by omega), hg_σ7.1 _ (by simp) (by omega), hg_σ6.1 _ (by simp) (by omega), vσ5, hg_σ4.1 _ (by simp) (by omega), hg_σ3.1 _ (by simp) (by omega), hg_σ2.1 _ (by simp) (by omega), hg_σ1.1 _ (by simp) (by omega)]
                  have w10 : σz.1 (t + 10) = am_up (σ.1 (t + 10)) nO c := by rw [hg_σz.1 _ (by simp) (by omega), hg_σ9.1 _ (by simp) (by omega), hg_σ8.1 _ (by simp) (by omega), vσ7, hg_σ6.1 _ (by simp) (by omega), hg_σ5.1 _ (by simp) (by omega), hg_σ4.1 _ (by simp) (by omega), hg_σ3.1 _ (by simp) (by omega), hg_σ2.1 _ (by simp) (by omega), hg_σ1.1 _ (by simp) (by omega)]
                  have w11 : σz.1 (t + 11) = am_up (σ.1 (t + 11)) nO x := by rw [hg_σz.1 _ (by simp) (by omega), hg_σ9.1 _ (by simp) (by omega), vσ8, hg_σ7.1 _ (by simp) (by omega), hg_σ6.1 _ (by simp) (by omega), hg_σ5.1 _ (by simp) (by omega), hg_σ4.1 _ (by simp) (by omega), hg_σ3.1 _ (by simp) (by omega), hg_σ2.1 _ (by simp) (by omega), hg_σ1.1 _ (by simp) (by omega)]
                  have w12 : σz.1 (t + 12) = am_up (σ.1 (t + 12)) nO f := by rw [hg_σz.1 _ (by simp) (by omega), vσ9, hg_σ8.1 _ (by simp) (by omega), hg_σ7.1 _ (by simp) (by omega), hg_σ6.1 _ (by simp) (by omega), hg_σ5.1 _ (by simp) (by omega), hg_σ4.1 _ (by simp) (by omega), hg_σ3.1 _ (by simp) (by omega), hg_σ2.1 _ (by simp) (by omega), hg_σ1.1 _ (by simp) (by omega)]
                  have wN : NM_ (t + 5) (t + 1) 2 (am_up (D 137) (4 + nO) (tkw_ tp n (nxp_ tp n p))) 4 (nO + 1) σz := hN1.cg (by rw [w1, v1]) (by rw [hg_σz.2.2.1 _ (by simp) (by omega), hg_σ9.2.2.1 _ (by simp) (by omega), hg_σ8.2.2.1 _ (by simp) (by omega), hg_σ7.2.2.1 _ (by simp) (by omega), hg_σ6.2.2.1 _ (by simp) (by omega), hg_σ5.2.2.1 _ (by simp) (by omega), hg_σ4.2.2.1 _ (by simp) (by omega), hg_σ3.2.2.1 _ (by simp) (by omega), hg_σ2.2.2.1 _ (by simp) (by omega)]) (fun i hi => rfl) rfl
                  exact hQ.2 _ _ rfl _ (gl_gx hf_σz (by intro x hx; simp at hx; omega) (by intro x hx; simp at hx; omega) (by intro x hx; simp at hx ⊢; omega)) hCz (xd_ord ht hV hX hf_σz (by omega) w1 wN w8 w9 w10 w11 w12)

