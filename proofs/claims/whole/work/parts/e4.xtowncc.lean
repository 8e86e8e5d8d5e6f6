theorem cc_town {d : Nat} (hd : 80 ≤ d) {b : Int} (hb0 : b ≤ 60000) (hb1 : 100 ≤ b) {σ : am_S} (hC : CP_ b σ) : CC_ d 94 182 [] b σ := by
  obtain ⟨T, t, a, e, hs, fb, G, ng, hG⟩ := hC
  obtain ⟨ht, hT, hV, hX, hr1, hr2⟩ := hG.1
  obtain ⟨n, n1, n2, n3, n4⟩ := hG.2.2.2.2.2.2.1
  have hW := hG.2.2.2.2.2.2.2.2.2
  have ht2 : (36 - t = 2 ∨ 36 - t = 34) := by omega
  unfold CC_
  refine x_town (s := t) (D := dz_ σ) (by omega) ht2 n3 hr1 hr2 n2 n1 hW (dz_z σ) (fun er her σ1 hg1 hFX => ?_) (fun D' p' m her hDW hm σ1 hs1 hk1 z1 z8 z14 z127 r2 r68 f0 f1 hXD hBG hsd hh0 hXH => ?_)
  · have c1 : ∀ c, (c < 36 - t ∨ 36 - t + 30 < c) → c ≠ 66 → c ≠ 0 → σ1.1 c = σ.1 c := fun c h1 h2 h3 => by rw [hg1.1 c h1 h2, sI_ne h3]
    have hdz : dz_ σ1 = dz_ σ := dz_cg (fun c h1 h2 => c1 c (by omega) (by omega) (by omega)) (by rw [hg1.2.1 137 (by omega) (by decide)]; rfl)
    have h135 : σ1.1 135 = σ.1 135 := c1 135 (by omega) (by decide) (by decide)
    have z1 : σ1.1 0 1 = 0 := by rw [hg1.1 0 (by omega) (by decide), sI_at, am_up_same]
    refine ⟨_, rfl, by rw [hg1.2.2.2]; rfl, m_town (by omega) (tp := σ.1 136) (c1 136 (by omega) (by decide) (by decide)) (by rw [h135]; exact n4) n1 (fun D hD => ⟨fun er' her' σ2 hf2 h1 hFT => ?_, fun D'' p'' her' => ?_⟩)⟩
    · rw [hD, hdz, her] at her'
      cases her'
      have hk : KF_ s7_ [1] (1 :: 5 :: rfF_) σ σ2 := by
        refine ⟨fun c hc h0 h5 => ?_, fun k hk => ?_, fun k hk => ?_, ?_, ?_, ?_, ?_⟩
        · have hc2 : ¬ ((2 ≤ c ∧ c ≤ 32) ∨ (34 ≤ c ∧ c ≤ 64) ∨ c = 66 ∨ c ∈ rfA_) := fun q => hc (s7_in c q)
          rw [hf2.1 c (fun q => hc2 (Or.inr (Or.inr (Or.inr q)))) h5, c1 c (by omega) (by omega) h0]
        · rw [hf2.1 0 (by decide) (by decide), hg1.1 0 (by omega) (by decide), sI_at, am_up_ne (by simpa using hk)]
        · rw [hf2.2.1 k hk, h135]
        · rw [hf2.2.2.1 67 (by decide) (by decide), hg1.2.1 67 (by omega) (by decide)]; rfl
        · rw [hf2.2.2.2.2, hg1.2.2.1 0 (by decide)]; rfl
        · rw [hf2.2.2.2.2, hg1.2.2.1 68 (by decide)]; rfl
        · rw [hf2.2.2.2.2, hg1.2.2.2]; rfl
      have e66 : σ2.1 66 = σ1.1 66 := hf2.1 66 (by decide) (by decide)
      refine ⟨rfl, (hG.k8 hk (fun c h1 h2 => ?_) ⟨0, by decide, fun k hk => absurd hk (by omega), ?_, h1⟩ ⟨?_, ?_⟩).cp (by omega), hk.2.2.2.2.2.2⟩
      · have hc3 : c ∉ rfA_ := fun q => by
          unfold rfA_ at q
          simp at q
          omega
        rw [hf2.1 c hc3 (by omega), c1 c (by omega) (by omega) (by omega)]
      · rw [hf2.1 0 (by decide) (by decide)]; exact z1
      · rw [e66, hFX.1, hFT.1]
      · rw [e66, hFX.2, hFT.2]
    · rw [hD, hdz, her] at her'
      cases her'
  · have c1 : ∀ c, 115 ≤ c → c ≠ 127 → σ1.1 c = σ.1 c := fun c h1 h2 => hk1.1 c (by omega) (by omega) (by omega) (by omega) (by omega) (by omega) h2 (by omega)
    have hdz : dz_ σ1 = dz_ σ := dz_cg (fun c h1 h2 => c1 c (by omega) (by omega)) (by rw [hk1.2.2.1 137 (by omega) (by decide)])
    have h135 : σ1.1 135 = σ.1 135 := c1 135 (by decide) (by decide)
    refine ⟨_, rfl, hk1.2.2.2, m_town (by omega) (tp := σ.1 136) (c1 136 (by decide) (by decide)) (by rw [h135]; exact n4) n1 (fun D hD => ⟨fun er' her' => ?_, fun D'' p'' her' => ?_⟩)⟩
    · rw [hD, hdz, her] at her'
      cases her'
    · rw [hD, hdz, her] at her'
      cases her'
      intro T2 nS nO nR nP nU nF σ2 g f s hDW2 hTD hnF hTM hf2 hg0 hs49 h163 h56 h64 h65 h68 h77 h176 h1 h2 h3
      obtain ⟨hTV, m1, m2, m3, m4⟩ := hTD.tv hDW2 hnF
      have hP : (D' 135 46).toNat = nP := by rw [hDW2.hP]; rfl
      have hms : m = s := by omega
      subst hms
      rw [hP] at hBG hsd
      have hP6 := hDW2.P6
      have hR3 := hDW2.R3
      have hO8 := hDW2.O8
      have lo : ∀ c, c < 135 → σ2.1 c = σ1.1 c := fun c hc => hf2.1 c (fun q => by
        have hall : ∀ x, x ∈ [140, 141, 151, 152, 153, 154, 155, 156, 158, 162, 163, 176] ++ rfA_ → 135 ≤ x := by decide
        have := hall c q
        omega) (by omega)
      have hX2 : XD_ (36 - t) D' σ2 := hXD.fr hDW2 (fun c _ _ => lo c (by omega)) (fun c h1 h2 => hf2.2.2.1 c (by simp; omega) (by omega)) (by rw [lo 66 (by decide)])
      have hXT := xt_of ht2 hDW2 hTD hnF hX2
      have hly := lyt_at T2 D' g f m nP hP6
      have hdr : ∀ j, j < nP → dr_ (tc_ D') (pa_ (tc_ D') j) ((sd_ m (j + 1) : Nat) : Int) = dr_ T2 (D' 159 j).toNat ((sd_ m (j + 1) : Nat) : Int) := fun j hj => by
        have hpe := (hDW2.pe j hj).1
        have hO : nO_ (tc_ D') = nO_ T2 := by
          unfold nO_
          rw [hTD.e51]
          rfl
        show dr_ (tc_ D') (D' 159 j).toNat _ = _
        exact dr_cg hO (fun i hi => (hTD.r _ (by omega)).symm)
      have hrow : RW_x T2 (σ2.1 163) (σ1.1 69) := by
        rw [h163]
        refine ⟨?_, fun p hp => ?_, fun p hp => ?_, fun p hp => ?_, fun p hp => ?_, fun p i hp hi => ?_⟩
        · rw [hBG.1, hly.2.2, hg0 49 (by decide)]
        · rw [(hBG.2 p (by omega)).1, (hly.1 p (by omega)).1]
        · rw [(hBG.2 p (by omega)).2.1, (hly.1 p (by omega)).2.2.1]
        · rw [(hBG.2 p (by omega)).2.2.1, (hly.1 p (by omega)).2.2.2.1]
        · rw [(hBG.2 p (by omega)).2.2.2.1, (hly.1 p (by omega)).2.1, hdr p (by omega)]
        · rw [(hBG.2 p (by omega)).2.2.2.2 i hi, (hly.1 p (by omega)).2.2.2.2 i hi]
      have hgr : GR_ T2 (b + 1) (σ2.1 163) := by
        rw [h163]
        refine ⟨⟨⟨by rw [hly.2.2, hg0 49 (by decide)]; omega, by rw [hly.2.2, hg0 49 (by decide)]; omega⟩, ⟨by rw [hly.2.1, hg0 48 (by decide)]; omega, by rw [hly.2.1, hg0 48 (by decide)]; omega⟩, fun p hp => ?_⟩, by rw [hly.2.2, hg0 49 (by decide)]; omega, fun p hp h12 => ?_, ?_⟩
        · obtain ⟨l1, l2, l3, l4, l5⟩ := hly.1 p (by omega)
          have hpe := hDW2.pe p (by omega)
          have hdb := dr_bd (T := T2) (q := (D' 159 p).toNat) (s := ((sd_ m (p + 1) : Nat) : Int))
          have hO2 : T2 135 51 = (nO : Int) := by rw [hTD.e51, hDW2.hO]
          have hS2 := hTV.nS.1
          refine ⟨?_, ?_, ?_, ?_, fun i hi => ?_⟩
          · rw [l1]; omega
          · rw [l2, hO2]; omega
          · rw [l3]; omega
          · rw [l4]; omega
          · rw [l5 i hi]; exact hpe.2.2 i hi
        · rw [(hly.1 p (by omega)).2.2.1] at h12
          exact absurd h12 (by decide)
        · rw [hly.2.1, hg0 48 (by decide), dn_zero _ (fun p hp => (hly.1 p (by omega)).2.2.1)]
          rfl
      have hcp : CG_ T2 (36 - t) (b + 1) 0 0 (fun _ => σ2.1 163) 0 G 0 σ2 := by
        refine ⟨⟨ht2, hTM, hTV, hXT, ?_, ?_⟩, ⟨?_, hgr, ⟨h64, h65, by decide, fun i j hi => absurd hi (by omega), fun i j hi => absurd hi (by omega), fun _ _ => rfl⟩, ?_, fun _ _ => hgr⟩, ⟨fun q hq => Or.inl (h176 q hq), ⟨?_, by decide, fun q hq hb => absurd hb (by simp)⟩, fun q hq => ⟨?_, fun w => ?_⟩⟩, ⟨⟨h77, by decide, ⟨?_, ?_, ?_, ?_, ?_, ?_⟩, fun j hj => absurd hj (by omega)⟩, ?_⟩, ?_, ⟨0, by decide, ?_, h68, fun k hk => absurd hk (by omega)⟩, ⟨0, by decide, fun k hk => absurd hk (by omega), ?_, h1⟩, ⟨?_, ?_⟩, ?_, ?_⟩
        · rw [hf2.2.2.2.2, r2]; congr 1; omega
        · rw [hf2.2.2.2.2]; exact r68
        · rw [lo 69 (by decide)]; exact hrow
        · obtain ⟨w1, w2, w3, old, w4, w5, w6⟩ := hXH
          have hnn : nP_ T2 = nP_ (tc_ D') := by
            rw [m1]
            unfold nP_
            show nP = (D' 135 46).toNat
            exact hP.symm
          refine ⟨by rw [lo 72 (by decide)]; exact w1, by rw [lo 72 (by decide)]; exact w2, w3, old, w4, by rw [lo 72 (by decide)]; exact w5, fun i hi => ?_⟩
          obtain rfl : i = 0 := by omega
          have hml := Nat.mod_lt (old + 0) (show 0 < 41 by decide)
          rw [lo (74 + (old + 0) % 41) (by omega)]
          have hv := w6 0 (by omega)
          rw [hh0] at hv
          exact rw_via hnn (vx_rw (T := tc_ D') (by omega) (σ1.1 69)) hv hrow
        · rw [lo 0 (by decide)]; exact z8
        · rw [h176 q hq]; simp
        · rw [h176 q hq] at w; exact absurd w (by decide)
        · rw [hf2.1 170 (by decide) (by decide), c1 170 (by decide) (by decide)]; exact hG.2.2.2.1.1.2.2.1.1
        · rw [hf2.1 171 (by decide) (by decide), c1 171 (by decide) (by decide)]; exact hG.2.2.2.1.1.2.2.1.2.1
        · rw [hf2.1 172 (by decide) (by decide), c1 172 (by decide) (by decide)]; exact hG.2.2.2.1.1.2.2.1.2.2.1
        · rw [hf2.1 173 (by decide) (by decide), c1 173 (by decide) (by decide)]; exact hG.2.2.2.1.1.2.2.1.2.2.2.1
        · rw [hf2.1 174 (by decide) (by decide), c1 174 (by decide) (by decide)]; exact hG.2.2.2.1.1.2.2.1.2.2.2.2.1
        · rw [hf2.1 175 (by decide) (by decide), c1 175 (by decide) (by decide)]; exact hG.2.2.2.1.1.2.2.1.2.2.2.2.2
        · have q0 : ∀ j, ¬ j < 0 := fun j => by omega
          exact ⟨by rw [lo 127 (by decide)]; exact z127, by decide, fun j hj => absurd hj (q0 j), fun j hj => absurd hj (q0 j), fun j hj => absurd hj (q0 j), fun j hj => absurd hj (q0 j), fun j hj => absurd hj (q0 j), fun j hj => absurd hj (q0 j), fun j hj => absurd hj (q0 j), fun j hj => absurd hj (q0 j), fun j hj => absurd hj (q0 j)⟩
        · obtain ⟨tm, t1, t2, t3⟩ := hG.2.2.2.2.1
          exact ⟨tm, t1, by rw [lo 0 (by decide), hk1.2.1 12 (by decide) (by decide) (by decide)]; exact t2, by rw [hf2.2.1 78 (by decide), h135]; exact t3⟩
        · rw [lo 0 (by decide)]; exact z14
        · rw [lo 0 (by decide)]; exact z1
        · rw [lo 66 (by decide), f0, h2]
        · rw [lo 66 (by decide), f1, h3]
        · show σ2.1 68 2 = σ2.1 135 56
          rw [lo 68 (by decide), hsd, h56, lyt_sd]
        · exact fun i hi => by rw [hf2.2.2.1 67 (by decide) (by decide), hk1.2.2.1 67 (by omega) (by decide)]; exact hW i hi
      exact ⟨rfl, hcp.cp (Int.le_refl _), by rw [hf2.2.2.2.2]; exact hk1.2.2.2⟩
