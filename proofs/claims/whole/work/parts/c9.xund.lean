theorem bi_or {n a : Nat} (ha : a < n) {p q : Nat → Bool} (h : ∀ k, k < n → k ≠ a → q k = p k) (hq : q a = true) : bi_ n q = bi_ n p ||| 2 ^ a := by
  apply Nat.eq_of_testBit_eq
  intro k
  rw [bi_tb, Nat.testBit_or, bi_tb, Nat.testBit_two_pow]
  by_cases e : k = a
  · subst e
    simp [ha, hq]
  · by_cases e2 : k < n
    · rw [h k e2 e]
      simp [e2, show ¬ a = k from fun w => e w.symm]
    · simp [e2, show ¬ a = k from fun w => e w.symm]
theorem tb_or (w b o : Nat) : tb_ (((w ||| 2 ^ b : Nat)) : Int) o = (tb_ (w : Int) o || decide (b = o)) := by
  unfold tb_
  rw [Int.toNat_natCast, Int.toNat_natCast, Nat.testBit_or, Nat.testBit_two_pow]
theorem xd_und {t : Nat} (ht : t = 2 ∨ t = 34) {D : sp_T} {nS nO nR nP nU : Nat} (hV : DW_ D nS nO nR nP nU) {σ σz : am_S} (hX : XD_ t D σ) (hf : gx_ [t + 1, t + 13, t + 14] [] [0, 1, 5, 6, 7, 9] σ σz) {a b w : Nat} (ha : a < nO) (hb : b < nO) (hw : D 150 a = (w : Int)) (w1 : σz.1 (t + 1) = am_up (σ.1 (t + 1)) 4 ((nU + 1 : Nat) : Int)) (w13 : σz.1 (t + 13) = am_up (σ.1 (t + 13)) a ((w ||| 2 ^ b : Nat) : Int)) (w14 : σz.1 (t + 14) = am_up (σ.1 (t + 14)) b ((bi_ nO (fun u => tb_ (D 150 u) b) ||| 2 ^ a : Nat) : Int)) : XD_ t (du_ (du_ D 150 a ((w ||| 2 ^ b : Nat) : Int)) 135 47 ((nU + 1 : Nat) : Int)) σz := by
  have hO : (D 135 44).toNat = nO := by rw [hV.hO]; rfl
  have hO8 := hV.O8
  have hP : (D 135 46).toNat = nP := by rw [hV.hP]; rfl
  have hP6 := hV.P6
  generalize hD : du_ (du_ D 150 a ((w ||| 2 ^ b : Nat) : Int)) 135 47 ((nU + 1 : Nat) : Int) = D'
  have d150 : D' 150 = am_up (D 150) a ((w ||| 2 ^ b : Nat) : Int) := by rw [← hD]; rfl
  have d47 : D' 135 47 = ((nU + 1 : Nat) : Int) := by rw [← hD, du_s, am_up_same]
  have d135 : ∀ k, k ≠ 47 → D' 135 k = D 135 k := fun k hk => by rw [← hD, du_s, am_up_ne hk]; rfl
  have dr : ∀ c, 137 ≤ c → c ≠ 150 → D' c = D c := fun c h1 h2 => by rw [← hD, du_o (by omega), du_o h2]
  clear hD
  refine ⟨?_, ?_, ?_, ?_, ?_, ?_, ?_⟩
  · exact hX.1.cg (fun s hs => by rw [w1, am_up_ne (by omega)]) (fun c h1 h2 => hf.2.2.1 _ (by simp) (by omega)) (dr _ (by decide) (by decide)) (d135 _ (by decide)) (d135 _ (by decide)) (d135 _ (by decide)) (d135 _ (by decide))
  · intro o ho
    have h0 := hX.2.1 o ho
    rw [hO] at h0
    rw [d135 44 (by decide), hO, hf.1 (t + 8) (by simp) (by omega), hf.1 (t + 9) (by simp) (by omega), hf.1 (t + 10) (by simp) (by omega), hf.1 (t + 11) (by simp) (by omega), hf.1 (t + 12) (by simp) (by omega), dr 145 (by decide) (by decide), dr 146 (by decide) (by decide), dr 147 (by decide) (by decide), dr 148 (by decide) (by decide), dr 149 (by decide) (by decide), d150, w13, w14]
    refine ⟨fun h => ?_, fun h => by rw [am_up_ne (by omega)]; exact h0.2.1 h, ?_⟩
    · have h1 := h0.1 h
      refine ⟨h1.1, h1.2.1, h1.2.2.1, h1.2.2.2.1, h1.2.2.2.2.1, ?_⟩
      by_cases e : o = a
      · rw [e, am_up_same, am_up_same]
      · rw [am_up_ne e, am_up_ne e]
        exact h1.2.2.2.2.2
    · by_cases e : o = b
      · rw [e, am_up_same]
        congr 1
        exact (bi_or ha (p := fun u => tb_ (D 150 u) b) (q := fun u => tb_ (am_up (D 150) a ((w ||| 2 ^ b : Nat) : Int) u) b) (fun k hk hka => by show tb_ (am_up _ _ _ _) _ = _; rw [am_up_ne hka]) (by show tb_ (am_up _ _ _ _) _ = _; rw [am_up_same, tb_or]; simp)).symm
      · rw [am_up_ne e, h0.2.2]
        congr 1
        apply bi_eq
        intro k hk
        by_cases e2 : k = a
        · rw [e2, am_up_same, tb_or, hw]
          simp [show ¬ b = o from fun w => e w.symm]
        · rw [am_up_ne e2]
  · exact hX.2.2.1.cg (fun r hr => hf.1 _ (by simp; omega) (by omega)) (dr _ (by decide) (by decide)) (d135 _ (by decide))
  · exact hX.2.2.2.1.cg (by omega) (fun a h1 h2 => hf.1 _ (by simp; omega) (by omega)) (fun a h1 h2 => dr _ (by omega) (by omega)) (d135 _ (by decide))
  · exact ⟨by rw [hf.1 t (by simp) (by omega), d135 48 (by decide)]; exact hX.2.2.2.2.1.1, by rw [hf.1 t (by simp) (by omega), d135 49 (by decide)]; exact hX.2.2.2.2.1.2.1, by rw [w1, am_up_same, d47]⟩
  · exact hX.2.2.2.2.2.1.cg (fun a h1 h2 => hf.1 _ (by simp; omega) (by omega)) (d135 _ (by decide)) (d135 _ (by decide)) (d135 _ (by decide)) (dr _ (by decide) (by decide)) (dr _ (by decide) (by decide))
  · exact hX.2.2.2.2.2.2.cg (hf.2.1 _ (by decide)) (d135 _ (by decide)) (d135 _ (by decide)) (d135 _ (by decide))

theorem x_readsUndoes {d : Nat} (hd : 6 ≤ d) {σ : am_S} {tp : Nat → Int} {n t p : Nat} (hC : RC_ tp n t p σ) (h3 : tks_ tp n p ≠ 3) {D : sp_T} {nS nO nR nP nU : Nat} (hV : DW_ D nS nO nR nP nU) (hX : XD_ t D σ) {Q : Option am_V → am_S → Prop} (hF : 8 ≤ nU → ∀ σ', gl_ t σ σ' → FX_ tp n (2, p) σ' → Q (some (am_I 0)) σ') (hQ : nU < 8 → LX_ tp n t (sb_ (sb_ (und_ tp n (D 137) (D 150) nO p).1 fun p' => Sum.inr (du_ (du_ D 150 (und_ tp n (D 137) (D 150) nO p).2.1 (((D 150 (und_ tp n (D 137) (D 150) nO p).2.1).toNat ||| 2 ^ (und_ tp n (D 137) (D 150) nO p).2.2 : Nat) : Int)) 135 47 ((nU + 1 : Nat) : Int), p')) (eol_ tp n)) σ Q) : am_Ev d 48 [am_R 66] σ Q := by
  obtain ⟨d, rfl⟩ : ∃ e, d = e + 1 := ⟨d - 1, by omega⟩
  have ht := hC.ht
  have hO : (D 135 44).toNat = nO := by rw [hV.hO]; rfl
  have hO8 := hV.O8
  have hU8 := hV.U8
  have hNO : NM_ (t + 5) (t + 1) 2 (D 137) 4 nO σ := by have h := hX.1.2.1; rw [hO] at h; exact h
  have c4 : σ.1 (t + 1) 4 = (nU : Int) := by rw [hX.2.2.2.2.1.2.2]; exact hV.hU
  refine ev_in (m := 48) (c := k_X4_readsUndoes) (L := [some (am_R 66), none, none]) rfl rfl rfl rfl rfl rfl ?_
  refine ax_load (q := 1) rfl rfl rfl rfl rfl ?_
  refine ax_getf (q := 4) (v := am_R t) rfl rfl (am_fgR rfl hC.tn) ?_
  refine ax_getf (q := 7) (v := am_R (t + 1)) rfl rfl (xg7_0 hC.ht) ?_
  refine ax_const (q := 8) (v := am_I 4) rfl rfl rfl ?_
  refine bx_iald (q := 9) (k := 4) (z := ((nU : Nat) : Int)) rfl rfl (kd_1 hC.ht) (by omega) (by omega) (c4) ?_
  refine ax_gets (q := 12) rfl rfl ?_
  refine ax_const (q := 13) (v := am_I 4) rfl rfl rfl ?_
  refine bx_tld (q := 14) (k := 4) (z := 8) rfl rfl (by omega) (by omega) (rfl) ?_
  refine ax_icmp_lt (q := 17) (x := 23) rfl rfl (fun h14 => ?_) (fun h14 => ?_)
  · refine ax_load (q := 24) rfl rfl rfl rfl rfl ?_
    refine ax_callv (q := 27) rfl rfl rfl rfl rfl rfl ?_
    replace hQ := hQ (by omega)
    refine x_nextT (by omega) hC h3 (fun σ1 hg_σ1 hC1 => ?_)
    have hf_σ1 : gx_ [t + 1, t + 13, t + 14] [] [0, 1, 5, 6, 7, 9] σ σ1 := gx_tr2 (gx_rf _ _ _ σ) (gx_su hg_σ1 (by intro x hx; simp at hx ⊢ <;> omega) (by intro x hx; simp at hx ⊢ <;> omega) (by intro x hx; simp at hx ⊢ <;> omega))
    refine ax_load (q := 28) rfl rfl rfl rfl rfl ?_
    refine ax_const (q := 29) (v := am_I 2) rfl rfl rfl ?_
    refine ax_callv (q := 32) rfl rfl rfl rfl rfl rfl ?_
    have hN1 := hNO.fr hg_σ1 (by simp) (by simp) (by omega) (by omega)
    refine x_old2 (by omega) hC1 hN1 (fun e he σd hg_σd g0 => ?_) (fun a hea ha hs1 => ?_)
    · have hf_σd : gx_ [t + 1, t + 13, t + 14] [] [0, 1, 5, 6, 7, 9] σ σd := gx_tr2 hf_σ1 (gx_su hg_σd (by intro x hx; simp at hx ⊢ <;> omega) (by intro x hx; simp at hx ⊢ <;> omega) (by intro x hx; simp at hx ⊢ <;> omega))
      have hu : und_ tp n (D 137) (D 150) nO p = (Sum.inl e, 0, 0) := by unfold und_; simp only [he]
      refine ax_store (q := 33) (L' := [some (am_R 66), some (am_I (-1)), none]) rfl rfl rfl rfl rfl rfl ?_
      refine ax_load (q := 34) rfl rfl rfl rfl rfl ?_
      refine ax_const (q := 35) (v := am_I (-1)) rfl rfl rfl ?_
      refine ax_icmp_ne (q := 38) (x := 40) rfl rfl (fun h => absurd rfl h) (fun h35 => ?_)
      refine ax_const (q := 39) (v := am_I 0) rfl rfl rfl ?_
      refine ax_ret (r := some (am_I 0)) rfl ⟨rfl, Or.inl rfl⟩ ?_
      rw [hu] at hQ
      simp only [sbr_, sbl_] at hQ
      exact hQ.1 _ rfl _ (gl_gx hf_σd (by intro x hx; simp at hx; omega) (by intro x hx; simp at hx) (by intro x hx; simp at hx ⊢; omega)) g0
    · refine ax_store (q := 33) (L' := [some (am_R 66), some (am_I ((a : Nat) : Int)), none]) rfl rfl rfl rfl rfl rfl ?_
      refine ax_load (q := 34) rfl rfl rfl rfl rfl ?_
      refine ax_const (q := 35) (v := am_I (-1)) rfl rfl rfl ?_
      refine ax_icmp_ne (q := 38) (x := 40) rfl rfl (fun h35 => ?_) (fun h => absurd h (by omega))
      refine ax_load (q := 41) rfl rfl rfl rfl rfl ?_
      refine ax_callv (q := 44) rfl rfl rfl rfl rfl rfl ?_
      refine x_nextT (by omega) hC1 (fun e => by rw [hs1] at e; exact absurd e (by decide)) (fun σ2 hg_σ2 hC2 => ?_)
      have hf_σ2 : gx_ [t + 1, t + 13, t + 14] [] [0, 1, 5, 6, 7, 9] σ σ2 := gx_tr2 hf_σ1 (gx_su hg_σ2 (by intro x hx; simp at hx ⊢ <;> omega) (by intro x hx; simp at hx ⊢ <;> omega) (by intro x hx; simp at hx ⊢ <;> omega))
      refine ax_load (q := 45) rfl rfl rfl rfl rfl ?_
      refine ax_const (q := 46) (v := am_I 2) rfl rfl rfl ?_
      refine ax_callv (q := 49) rfl rfl rfl rfl rfl rfl ?_
      have hN2 := hN1.fr hg_σ2 (by simp) (by simp) (by omega) (by omega)
      refine x_old2 (by omega) hC2 hN2 (fun e he σd hg_σd g0 => ?_) (fun b heb hb hs2 => ?_)
      · have hf_σd : gx_ [t + 1, t + 13, t + 14] [] [0, 1, 5, 6, 7, 9] σ σd := gx_tr2 hf_σ2 (gx_su hg_σd (by intro x hx; simp at hx ⊢ <;> omega) (by intro x hx; simp at hx ⊢ <;> omega) (by intro x hx; simp at hx ⊢ <;> omega))
        have hu : und_ tp n (D 137) (D 150) nO p = (Sum.inl e, 0, 0) := by unfold und_; simp only [hea, he]
        refine ax_store (q := 50) (L' := [some (am_R 66), some (am_I ((a : Nat) : Int)), some (am_I (-1))]) rfl rfl rfl rfl rfl rfl ?_
        refine ax_load (q := 51) rfl rfl rfl rfl rfl ?_
        refine ax_const (q := 52) (v := am_I (-1)) rfl rfl rfl ?_
        refine ax_icmp_ne (q := 55) (x := 57) rfl rfl (fun h => absurd rfl h) (fun h52 => ?_)
        refine ax_const (q := 56) (v := am_I 0) rfl rfl rfl ?_
        refine ax_ret (r := some (am_I 0)) rfl ⟨rfl, Or.inl rfl⟩ ?_
        rw [hu] at hQ
        simp only [sbr_, sbl_] at hQ
        exact hQ.1 _ rfl _ (gl_gx hf_σd (by intro x hx; simp at hx; omega) (by intro x hx; simp at hx) (by intro x hx; simp at hx ⊢; omega)) g0
      · have hba := ((hV.or a ha).2.2.2.2.2)
        obtain ⟨w, hw⟩ : ∃ w : Nat, D 150 a = (w : Int) := ⟨(D 150 a).toNat, by omega⟩
        have hw9 : w < 256 := by omega
        have c13 : σ2.1 (t + 13) a = (w : Int) := by rw [hg_σ2.1 _ (by simp) (by omega), hg_σ1.1 _ (by simp) (by omega), ← hw]; exact ((hX.2.1 a (by omega)).1 (by omega)).2.2.2.2.2
        have c14 : σ2.1 (t + 14) b = ((bi_ nO (fun u => tb_ (D 150 u) b) : Nat) : Int) := by have h := (hX.2.1 b (by omega)).2.2; rw [hO] at h; rw [hg_σ2.1 _ (by simp) (by omega), hg_σ1.1 _ (by simp) (by omega)]; exact h
        have hbi := bi_lt (fun u => tb_ (D 150 u) b) nO
        have hO2 : 2 ^ nO ≤ 2 ^ 8 := Nat.pow_le_pow_right (by decide) hO8
        have ha2 : 2 ^ a < 2 ^ 8 := Nat.pow_lt_pow_right (by decide) (by omega)
        have hb2 : 2 ^ b < 2 ^ 8 := Nat.pow_lt_pow_right (by decide) (by omega)
        have hwb : w ||| 2 ^ b < 2 ^ 8 := Nat.or_lt_two_pow hw9 hb2
        have hba2 : bi_ nO (fun u => tb_ (D 150 u) b) ||| 2 ^ a < 2 ^ 8 := Nat.or_lt_two_pow (by omega) ha2
        refine ax_store (q := 50) (L' := [some (am_R 66), some (am_I ((a : Nat) : Int)), some (am_I ((b : Nat) : Int))]) rfl rfl rfl rfl rfl rfl ?_
        refine ax_load (q := 51) rfl rfl rfl rfl rfl ?_
        refine ax_const (q := 52) (v := am_I (-1)) rfl rfl rfl ?_
        refine ax_icmp_ne (q := 55) (x := 57) rfl rfl (fun h52 => ?_) (fun h => absurd h (by omega))
        refine ax_load (q := 58) rfl rfl rfl rfl rfl ?_
        refine ax_load (q := 59) rfl rfl rfl rfl rfl ?_
        refine ax_icmp_eq (q := 62) (x := 78) rfl rfl (fun h59 => ?_) (fun h59 => ?_)
        · have hu : und_ tp n (D 137) (D 150) nO p = (Sum.inl (3, nxp_ tp n (nxp_ tp n p)), 0, 0) := by unfold und_; simp only [hea, heb, Int.toNat_natCast]; exact if_pos (Or.inl h59)
          refine ax_load (q := 79) rfl rfl rfl rfl rfl ?_
          refine ax_const (q := 80) (v := am_I 3) rfl rfl rfl ?_
          refine ax_callv (q := 83) rfl rfl rfl rfl rfl rfl ?_
          refine x_refuse (by omega) hC2.kx.1 (fun σr hg_σr g0 g1 gJ => ?_)
          have hf_σr : gx_ [t + 1, t + 13, t + 14] [] [0, 1, 5, 6, 7, 9] σ σr := gx_tr2 hf_σ2 (gx_su hg_σr (by intro x hx; simp at hx ⊢ <;> omega) (by intro x hx; simp at hx ⊢ <;> omega) (by intro x hx; simp at hx ⊢ <;> omega))
          refine ax_ret (r := some (am_I 0)) rfl ⟨rfl, Or.inl rfl⟩ ?_
          rw [hu] at hQ
          simp only [sbr_, sbl_] at hQ
          exact hQ.1 _ rfl _ (gl_gx hf_σr (by intro x hx; simp at hx; omega) (by intro x hx; simp at hx) (by intro x hx; simp at hx ⊢; omega)) ⟨by rw [g0]; exact (if_neg (fun e => by have e2 : tks_ tp n (nxp_ tp n (nxp_ tp n p)) = 3 := e; rw [hs2] at e2; exact absurd e2 (by decide))).symm, g1⟩
        · refine ax_load (q := 63) rfl rfl rfl rfl rfl ?_
          refine ax_getf (q := 66) (v := am_R t) rfl rfl (am_fgR rfl hC2.tn) ?_
          refine ax_getf (q := 69) (v := am_R (t + 13)) rfl rfl (xg7_3 hC.ht) ?_
          refine ax_load (q := 70) rfl rfl rfl rfl rfl ?_
          refine bx_iald (q := 71) (k := a) (z := ((w : Nat) : Int)) rfl rfl (kd_13 hC.ht) (by omega) (by omega) (c13) ?_
          refine ax_const (q := 72) (v := am_I 1) rfl rfl rfl ?_
          refine ax_load (q := 73) rfl rfl rfl rfl rfl ?_
          refine ax_ishl (q := 74) (z := ((2 ^ b : Nat) : Int)) rfl rfl (am_shl1 b (by omega)) ?_
          refine ax_iand (q := 75) (z := ((w &&& 2 ^ b : Nat) : Int)) rfl rfl (am_and_nat (by omega) (by omega)) ?_
          refine ax_if_eq (q := 78) (x := 84) rfl rfl (fun h75 => ?_) (fun h75 => ?_)
          · rw [and_2k] at h75
            have htb : w.testBit b = false := by
              cases q : w.testBit b with
              | false => rfl
              | true => rw [q, if_pos rfl] at h75; have := Nat.one_le_two_pow (n := b); omega
            have hu : und_ tp n (D 137) (D 150) nO p = (Sum.inr (nxp_ tp n (nxp_ tp n (nxp_ tp n p))), a, b) := by unfold und_; simp only [hea, heb, Int.toNat_natCast]; exact if_neg (fun q => by rcases q with q | q; exact h59 q; rw [hw, Int.toNat_natCast, htb] at q; cases q)
            rw [hu] at hQ
            simp only [sbr_, sbl_] at hQ
            rw [hw, Int.toNat_natCast] at hQ
            refine ax_load (q := 85) rfl rfl rfl rfl rfl ?_
            refine ax_getf (q := 88) (v := am_R t) rfl rfl (am_fgR rfl hC2.tn) ?_
            refine ax_getf (q := 91) (v := am_R (t + 13)) rfl rfl (xg7_3 hC.ht) ?_
            refine ax_load (q := 92) rfl rfl rfl rfl rfl ?_
            refine ax_dup2 (q := 93) rfl rfl rfl rfl ?_
            refine bx_iald (q := 94) (k := a) (z := ((w : Nat) : Int)) rfl rfl (kd_13 hC.ht) (by omega) (by omega) (c13) ?_
            refine ax_const (q := 95) (v := am_I 1) rfl rfl rfl ?_
            refine ax_load (q := 96) rfl rfl rfl rfl rfl ?_
            refine ax_ishl (q := 97) (z := ((2 ^ b : Nat) : Int)) rfl rfl (am_shl1 b (by omega)) ?_
            refine ax_ior (q := 98) (z := ((w ||| 2 ^ b : Nat) : Int)) rfl rfl (am_or_nat (by omega) (by omega)) ?_
            refine bx_iast (q := 99) (k := a) rfl rfl (kd_13 hC.ht) (by omega) (by omega) ?_
            obtain ⟨σ3, e_σ3⟩ : ∃ u, u = (am_sI σ2 (t + 13) (am_up (σ2.1 (t + 13)) a ((w ||| 2 ^ b : Nat) : Int))) := ⟨_, rfl⟩
            rw [← e_σ3]
            have hg_σ3 : gx_ [t + 13] [] [] σ2 σ3 := by rw [e_σ3]; exact gx_A (gx_rf _ _ _ _) (by simp) (by omega)
            have vσ3 : σ3.1 (t + 13) = am_up (σ2.1 (t + 13)) a ((w ||| 2 ^ b : Nat) : Int) := by rw [e_σ3, sI_at]
            have hf_σ3 : gx_ [t + 1, t + 13, t + 14] [] [0, 1, 5, 6, 7, 9] σ σ3 := gx_tr2 hf_σ2 (gx_su hg_σ3 (by intro x hx; simp at hx ⊢ <;> omega) (by intro x hx; simp at hx ⊢ <;> omega) (by intro x hx; simp at hx ⊢ <;> omega))
            have hC3 := hC2.fr hg_σ3 (by simp <;> omega) (by simp) (by simp) (by rw [e_σ3]; rfl)
            refine ax_load (q := 100) rfl rfl rfl rfl rfl ?_
            refine ax_getf (q := 103) (v := am_R t) rfl rfl (am_fgR rfl hC3.tn) ?_
            refine ax_getf (q := 106) (v := am_R (t + 14)) rfl rfl (xg7_4 hC.ht) ?_
            refine ax_load (q := 107) rfl rfl rfl rfl rfl ?_
            refine ax_dup2 (q := 108) rfl rfl rfl rfl ?_
            refine bx_iald (q := 109) (k := b) (z := (((bi_ nO (fun u => tb_ (D 150 u) b)) : Nat) : Int)) rfl rfl (kd_14 hC.ht) (by omega) (by omega) (by rw [hg_σ3.1 _ (by simp) (by omega)]; exact c14) ?_
            refine ax_const (q := 110) (v := am_I 1) rfl rfl rfl ?_
            refine ax_load (q := 111) rfl rfl rfl rfl rfl ?_
            refine ax_ishl (q := 112) (z := ((2 ^ a : Nat) : Int)) rfl rfl (am_shl1 a (by omega)) ?_
            refine ax_ior (q := 113) (z := (((bi_ nO (fun u => tb_ (D 150 u) b)) ||| 2 ^ a : Nat) : Int)) rfl rfl (am_or_nat (by omega) (by omega)) ?_
            refine bx_iast (q := 114) (k := b) rfl rfl (kd_14 hC.ht) (by omega) (by omega) ?_
            obtain ⟨σ4, e_σ4⟩ : ∃ u, u = (am_sI σ3 (t + 14) (am_up (σ3.1 (t + 14)) b (((bi_ nO (fun u => tb_ (D 150 u) b)) ||| 2 ^ a : Nat) : Int))) := ⟨_, rfl⟩
            rw [← e_σ4]
            have hg_σ4 : gx_ [t + 14] [] [] σ3 σ4 := by rw [e_σ4]; exact gx_A (gx_rf _ _ _ _) (by simp) (by omega)
            have vσ4 : σ4.1 (t + 14) = am_up (σ3.1 (t + 14)) b ((bi_ nO (fun u => tb_ (D 150 u) b) ||| 2 ^ a : Nat) : Int) := by rw [e_σ4, sI_at]
            have hf_σ4 : gx_ [t + 1, t + 13, t + 14] [] [0, 1, 5, 6, 7, 9] σ σ4 := gx_tr2 hf_σ3 (gx_su hg_σ4 (by intro x hx; simp at hx ⊢ <;> omega) (by intro x hx; simp at hx ⊢ <;> omega) (by intro x hx; simp at hx ⊢ <;> omega))
            have hC4 := hC3.fr hg_σ4 (by simp <;> omega) (by simp) (by simp) (by rw [e_σ4]; rfl)
            have c1 : σ4.1 (t + 1) 4 = (nU : Int) := by rw [hg_σ4.1 _ (by simp) (by omega), hg_σ3.1 _ (by simp) (by omega), hg_σ2.1 _ (by simp) (by omega), hg_σ1.1 _ (by simp) (by omega), hX.2.2.2.2.1.2.2]; exact hV.hU
            refine ax_load (q := 115) rfl rfl rfl rfl rfl ?_
            refine ax_getf (q := 118) (v := am_R t) rfl rfl (am_fgR rfl hC4.tn) ?_
            refine ax_getf (q := 121) (v := am_R (t + 1)) rfl rfl (xg7_0 hC.ht) ?_
            refine ax_const (q := 122) (v := am_I 4) rfl rfl rfl ?_
            refine ax_dup2 (q := 123) rfl rfl rfl rfl ?_
            refine bx_iald (q := 124) (k := 4) (z := ((nU : Nat) : Int)) rfl rfl (kd_1 hC.ht) (by omega) (by omega) (c1) ?_
            refine ax_const (q := 125) (v := am_I 1) rfl rfl rfl ?_
            refine ax_iadd (q := 126) (z := ((nU + 1 : Nat) : Int)) rfl rfl (am_we (by omega) (by omega) (by omega)) ?_
            refine bx_iast (q := 127) (k := 4) rfl rfl (kd_1 hC.ht) (by omega) (by omega) ?_
            refine ax_load (q := 128) rfl rfl rfl rfl rfl ?_
            refine ax_callv (q := 131) rfl rfl rfl rfl rfl rfl ?_
            obtain ⟨σ5, e_σ5⟩ : ∃ u, u = (am_sI σ4 (t + 1) (am_up (σ4.1 (t + 1)) 4 ((nU + 1 : Nat) : Int))) := ⟨_, rfl⟩
            show am_Ev _ _ _ (am_sI σ4 (t + 1) (am_up (σ4.1 (t + 1)) 4 ((nU + 1 : Nat) : Int))) _
            rw [← e_σ5]
            have hg_σ5 : gx_ [t + 1] [] [] σ4 σ5 := by rw [e_σ5]; exact gx_A (gx_rf _ _ _ _) (by simp) (by omega)
            have vσ5 : σ5.1 (t + 1) = am_up (σ4.1 (t + 1)) 4 ((nU + 1 : Nat) : Int) := by rw [e_σ5, sI_at]
            have hf_σ5 : gx_ [t + 1, t + 13, t + 14] [] [0, 1, 5, 6, 7, 9] σ σ5 := gx_tr2 hf_σ4 (gx_su hg_σ5 (by intro x hx; simp at hx ⊢ <;> omega) (by intro x hx; simp at hx ⊢ <;> omega) (by intro x hx; simp at hx ⊢ <;> omega))
            have hC5 := hC4.fr hg_σ5 (by simp <;> omega) (by simp) (by simp) (by rw [e_σ5]; rfl)
            refine x_nextT (by omega) hC5 (fun e => by rw [hs2] at e; exact absurd e (by decide)) (fun σ6 hg_σ6 hC6 => ?_)
            have hf_σ6 : gx_ [t + 1, t + 13, t + 14] [] [0, 1, 5, 6, 7, 9] σ σ6 := gx_tr2 hf_σ5 (gx_su hg_σ6 (by intro x hx; simp at hx ⊢ <;> omega) (by intro x hx; simp at hx ⊢ <;> omega) (by intro x hx; simp at hx ⊢ <;> omega))
            refine ax_load (q := 132) rfl rfl rfl rfl rfl ?_
            refine ax_const (q := 134) (v := am_I 59) rfl rfl rfl ?_
            refine ax_callv (q := 137) rfl rfl rfl rfl rfl rfl ?_
            refine x_semi (by omega) hC6 (fun he σs hg_σs g0 => ?_) (fun he σz hg_σz hCz => ?_)
            · rw [eol_n he] at hQ
              have hf_σs : gx_ [t + 1, t + 13, t + 14] [] [0, 1, 5, 6, 7, 9] σ σs := gx_tr2 hf_σ6 (gx_su hg_σs (by intro x hx; simp at hx ⊢ <;> omega) (by intro x hx; simp at hx ⊢ <;> omega) (by intro x hx; simp at hx ⊢ <;> omega))
              refine ax_ret (r := some (am_I 0)) rfl ⟨rfl, Or.inl rfl⟩ ?_
              exact hQ.1 _ rfl _ (gl_gx hf_σs (by intro x hx; simp at hx; omega) (by intro x hx; simp at hx) (by intro x hx; simp at hx ⊢; omega)) g0
            · rw [eol_y he] at hQ
              have hf_σz : gx_ [t + 1, t + 13, t + 14] [] [0, 1, 5, 6, 7, 9] σ σz := gx_tr2 hf_σ6 (gx_su hg_σz (by intro x hx; simp at hx ⊢ <;> omega) (by intro x hx; simp at hx ⊢ <;> omega) (by intro x hx; simp at hx ⊢ <;> omega))
              refine ax_ret (r := some (am_I 1)) rfl ⟨rfl, Or.inr rfl⟩ ?_
              have w1 : σz.1 (t + 1) = am_up (σ.1 (t + 1)) 4 ((nU + 1 : Nat) : Int) := by rw [hg_σz.1 _ (by simp) (by omega), hg_σ6.1 _ (by simp) (by omega), vσ5, hg_σ4.1 _ (by simp) (by omega), hg_σ3.1 _ (by simp) (by omega), hg_σ2.1 _ (by simp) (by omega), hg_σ1.1 _ (by simp) (by omega)]
              have w13 : σz.1 (t + 13) = am_up (σ.1 (t + 13)) a ((w ||| 2 ^ b : Nat) : Int) := by rw [hg_σz.1 _ (by simp) (by omega), hg_σ6.1 _ (by simp) (by omega), hg_σ5.1 _ (by simp) (by omega), hg_σ4.1 _ (by simp) (by omega), vσ3, hg_σ2.1 _ (by simp) (by omega), hg_σ1.1 _ (by simp) (by omega)]
              have w14 : σz.1 (t + 14) = am_up (σ.1 (t + 14)) b ((bi_ nO (fun u => tb_ (D 150 u) b) ||| 2 ^ a : Nat) : Int) := by rw [hg_σz.1 _ (by simp) (by omega), hg_σ6.1 _ (by simp) (by omega), hg_σ5.1 _ (by simp) (by omega), vσ4, hg_σ3.1 _ (by simp) (by omega), hg_σ2.1 _ (by simp) (by omega), hg_σ1.1 _ (by simp) (by omega)]
              exact hQ.2 _ _ rfl _ (gl_gx hf_σz (by intro x hx; simp at hx; omega) (by intro x hx; simp at hx) (by intro x hx; simp at hx ⊢; omega)) hCz (xd_und ht hV hX hf_σz ha hb hw w1 w13 w14)
          · rw [and_2k] at h75
            have htb : w.testBit b = true := by
              cases q : w.testBit b with
              | true => rfl
              | false => rw [q, if_neg (by decide)] at h75; exact absurd rfl h75
            have hu : und_ tp n (D 137) (D 150) nO p = (Sum.inl (3, nxp_ tp n (nxp_ tp n p)), 0, 0) := by unfold und_; simp only [hea, heb, Int.toNat_natCast]; exact if_pos (Or.inr (by rw [hw, Int.toNat_natCast]; exact htb))
            refine ax_load (q := 79) rfl rfl rfl rfl rfl ?_
            refine ax_const (q := 80) (v := am_I 3) rfl rfl rfl ?_
            refine ax_callv (q := 83) rfl rfl rfl rfl rfl rfl ?_
            refine x_refuse (by omega) hC2.kx.1 (fun σr hg_σr g0 g1 gJ => ?_)
            have hf_σr : gx_ [t + 1, t + 13, t + 14] [] [0, 1, 5, 6, 7, 9] σ σr := gx_tr2 hf_σ2 (gx_su hg_σr (by intro x hx; simp at hx ⊢ <;> omega) (by intro x hx; simp at hx ⊢ <;> omega) (by intro x hx; simp at hx ⊢ <;> omega))
            refine ax_ret (r := some (am_I 0)) rfl ⟨rfl, Or.inl rfl⟩ ?_
            rw [hu] at hQ
            simp only [sbr_, sbl_] at hQ
            exact hQ.1 _ rfl _ (gl_gx hf_σr (by intro x hx; simp at hx; omega) (by intro x hx; simp at hx) (by intro x hx; simp at hx ⊢; omega)) ⟨by rw [g0]; exact (if_neg (fun e => by have e2 : tks_ tp n (nxp_ tp n (nxp_ tp n p)) = 3 := e; rw [hs2] at e2; exact absurd e2 (by decide))).symm, g1⟩
  · refine ax_load (q := 18) rfl rfl rfl rfl rfl ?_
    refine ax_const (q := 19) (v := am_I 2) rfl rfl rfl ?_
    refine ax_callv (q := 22) rfl rfl rfl rfl rfl rfl ?_
    refine x_refuse (by omega) hC.kx.1 (fun σa hg_σa g0 g1 gJ => ?_)
    have hf_σa : gx_ [t + 1, t + 13, t + 14] [] [0, 1, 5, 6, 7, 9] σ σa := gx_tr2 (gx_rf _ _ _ σ) (gx_su hg_σa (by intro x hx; simp at hx ⊢ <;> omega) (by intro x hx; simp at hx ⊢ <;> omega) (by intro x hx; simp at hx ⊢ <;> omega))
    refine ax_ret (r := some (am_I 0)) rfl ⟨rfl, Or.inl rfl⟩ ?_
    exact hF (by omega) _ (gl_gx hf_σa (by intro x hx; simp at hx; omega) (by intro x hx; simp at hx) (by intro x hx; simp at hx ⊢; omega)) ⟨by rw [g0]; exact (if_neg (fun e => h3 e)).symm, g1⟩

