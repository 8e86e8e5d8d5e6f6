theorem cc_image {d : Nat} (hd : 80 ≤ d) {b : Int} (hb0 : b ≤ 60000) {σ : am_S} (hC : CP_ b σ) {x0 : Int} : CC_ d 136 259 [am_I x0] b σ := by
  obtain ⟨T, t, a, e, hs, fb, G, ng, hG⟩ := hC
  have hV := hG.1.2.2.1
  obtain ⟨hL, hR⟩ := hG.pl (v := σ.1 163) (fun _ _ => rfl)
  obtain ⟨g1, g2, g3⟩ := hG.2.2.1
  unfold CC_
  refine x_image (by omega) hL hV g2 (fun h => ?_) (fun q hq hq3 σ1 f1 f2 f3 hB1 => ?_)
  · exact ⟨_, rfl, rfl, m_image (by omega) (fun _ => ⟨rfl, hG.cp (by omega), rfl⟩) (fun q hq hq3 => by rw [hq] at h; unfold inr_ at h; have := of_decide_eq_false h; omega)⟩
  · have h163 : σ1.1 163 = σ.1 163 := f1 163 (by decide) (by decide)
    have h177 : σ1.1 177 = σ.1 177 := f1 177 (by decide) (by decide)
    have h176 : σ1.1 176 = σ.1 176 := f1 176 (by decide) (by decide)
    have hk1 : KF_ [176, 177, 116, 117, 118] [8] [] σ σ1 := ⟨fun c hc h0 h5 => f1 c h0 (by simp at hc; omega), fun k hk => f2 k (by simpa using hk), fun k _ => by rw [f1 135 (by decide) (by decide)], by rw [f3], by rw [f3], by rw [f3], by rw [f3]⟩
    refine ⟨_, rfl, hk1.2.2.2.2.2.2, m_image (by omega) (fun h => by rw [hq] at h; unfold inr_ at h; have := of_decide_eq_false h; omega) (fun q' hq' hq3' => ?_)⟩
    obtain rfl : q' = q := by omega
    have hk2 : KF_ [176, 177, 116, 117, 118] [8] [] σ1 (am_sI (am_sI σ1 176 (am_up (σ1.1 176) q' 1)) 177 (cd_ (σ1.1 163) (σ1.1 177) (50 * q') 50)) := (kf_sI (by simp) (by decide) (by decide)).tr (kf_sI (by simp) (by decide) (by decide))
    refine ⟨by rw [h163], (hG.k3 (hk1.tr hk2) (fb' := fb ||| 2 ^ q') ⟨?_, ⟨?_, ?_, ?_⟩, ?_⟩).cp (by omega), hk1.2.2.2.2.2.2⟩
    · intro c hc
      rw [sI_ne (by decide), sI_at, h176]
      by_cases w : c = q'
      · rw [w, am_up_same]; exact Or.inr rfl
      · rw [am_up_ne w]; exact g1 c hc
    · exact hB1.1
    · exact hB1.2.1
    · intro c hc hbit
      have h0 := hB1.2.2 c hc hbit
      rw [sI_ne (show 116 + c ≠ 177 by omega), sI_ne (show 116 + c ≠ 176 by omega)]
      refine h0.cg hV.nP.2 (fun j hj => ?_)
      rw [sI_at, h177, h163]
      by_cases w : c = q'
      · rw [w, am_up_same]
        show cd_ (σ.1 163) (σ.1 177) (50 * q') 50 (50 * q' + j) = _
        rw [cd_in hj]
      · rw [am_up_ne w]
        show cd_ (σ.1 163) (σ.1 177) (50 * q') 50 (50 * c + j) = _
        rw [cd_out (by omega)]
    · intro c hc
      have hbx := (bx_tb fb g2.2.1 q' hq3).2 c hc
      rw [sI_ne (by decide), sI_at, sI_at, h176, h177, h163, hbx]
      by_cases w : c = q'
      · rw [w, am_up_same]
        exact ⟨by simp, fun _ => hG.2.1.2.1.cg hV (fun j hj => by rw [cd_in hj])⟩
      · rw [am_up_ne w]
        exact ⟨by simp [w]; exact (g3 c hc).1, fun h1 => ((g3 c hc).2 h1).cg hV (fun j hj => by rw [cd_out (by omega)])⟩
theorem cc_back {d : Nat} (hd : 80 ≤ d) {b : Int} (hb0 : b ≤ 60000) {σ : am_S} (hC : CP_ b σ) {x0 : Int} : CC_ d 137 260 [am_I x0] b σ := by
  obtain ⟨T, t, a, e, hs, fb, G, ng, hG⟩ := hC
  have hV := hG.1.2.2.1
  have ht := hG.1.1
  obtain ⟨hL, hR⟩ := hG.pl (v := σ.1 163) (fun _ _ => rfl)
  obtain ⟨g1, g2, g3⟩ := hG.2.2.1
  have hcond : (inr_ 3 x0 && fb.testBit x0.toNat) = (inr_ 3 x0 && decide (σ.1 176 x0.toNat = 1)) := by
    cases hi : inr_ 3 x0 with
    | false => rfl
    | true =>
      obtain ⟨q, rfl, hq⟩ := inr_t hi
      rw [Int.toNat_natCast, Bool.true_and, Bool.true_and]
      have := (g3 q hq).1
      cases hw : fb.testBit q with
      | false => exact (decide_eq_false (fun w => by rw [this.mpr w] at hw; cases hw)).symm
      | true => exact (decide_eq_true (this.mp hw)).symm
  unfold CC_
  refine x_back (by omega) hL hV g2 (fun h => ?_) (fun q hq hq3 hbit σ1 hs1 hf1 hL1 hh1 hH1 => ?_)
  · exact ⟨_, rfl, rfl, m_back (by omega) g1 (fun _ => ⟨rfl, hG.cp (by omega), rfl⟩) (fun q hq hq3 h1 => by rw [hcond, hq] at h; unfold inr_ at h; rw [Int.toNat_natCast, decide_eq_true h1, decide_eq_true (show (0 : Int) ≤ (q : Int) ∧ (q : Int) < ((3 : Nat) : Int) by omega)] at h; cases h)⟩
  · have hk1 : KF_ s2_ [] [64, 65] σ σ1 := kf_hz ht hf1 (by decide +kernel)
    have h163 : σ1.1 163 = σ.1 163 := hf1.1 163 (by decide) (by decide) (by omega) (by decide)
    have h177 : σ1.1 177 = σ.1 177 := hf1.1 177 (by decide) (by decide) (by omega) (by decide)
    have h176 : σ1.1 176 = σ.1 176 := hf1.1 176 (by decide) (by decide) (by omega) (by decide)
    have hq1 := (g3 q hq3).1.mp hbit
    refine ⟨_, rfl, hk1.2.2.2.2.2.2, m_back (by omega) (by rw [h176]; exact g1) (fun h => by rw [hq] at h; unfold inr_ at h; rw [Int.toNat_natCast, h176, decide_eq_true hq1, decide_eq_true (show (0 : Int) ≤ (q : Int) ∧ (q : Int) < ((3 : Nat) : Int) by omega)] at h; cases h) (fun q' hq' hq3' h1 => ?_)⟩
    obtain rfl : q' = q := by omega
    have hbk : ∀ c, c ≠ 163 → c ≠ 135 → (bk_ σ1 q').1 c = σ1.1 c := fun c h1 h2 => by unfold bk_; rw [sI_ne h2, sI_ne h1]
    have hk2 : KF_ s2_ [] [64, 65] σ1 (bk_ σ1 q') := ⟨fun c hc h0 h5 => hbk c (fun w => hc (by rw [w]; decide)) h5, fun k _ => by rw [hbk 0 (by decide) (by decide)], fun k hk => by simp at hk; unfold bk_; rw [sI_at, am_up_ne hk.2, am_up_ne hk.1], rfl, rfl, rfl, rfl⟩
    have hrow : ∀ j, j < 50 → (bk_ σ1 q').1 163 j = σ.1 177 (50 * q' + j) := fun j hj => by
      unfold bk_
      rw [sI_ne (by decide), sI_at, cp_at hj, h177]
    have hGq := (g3 q' hq3).2 hq1
    refine ⟨by rw [h177], (hG.k2 (hk1.tr hk2) (Int.le_refl b) (a' := 0) (e' := 0) (hs' := hs1) ⟨?_, hGq.cg hV hrow, ⟨?_, ?_, by decide, fun i j hi => absurd hi (by omega), fun i j hi => absurd hi (by omega), fun j hj => by rw [hrow j hj, hh1]⟩, hH1.cg (fun c hc => hbk c (by omega) (by omega)), fun i hi => ?_⟩).cp (by omega), hk1.2.2.2.2.2.2⟩
    · rw [hbk 69 (by decide) (by decide)]
      exact hL1.rw.cg hV.nP.2 hrow
    · unfold bk_; rw [sI_at, am_up_ne (by decide), am_up_same]; rfl
    · unfold bk_; rw [sI_at, am_up_same]; rfl
    · obtain rfl : i = 0 := by omega
      rw [hh1]
      exact hGq
theorem cc_life {d : Nat} (hd : 80 ≤ d) {b : Int} (hb0 : b ≤ 60000) {σ : am_S} (hC : CP_ b σ) {x0 : Int} : CC_ d 117 233 [am_I x0] b σ := by
  obtain ⟨T, t, a, e, hs, fb, G, ng, hG⟩ := hC
  have hV := hG.1.2.2.1
  have ht := hG.1.1
  obtain ⟨hL, hR⟩ := hG.pl (v := σ.1 163) (fun _ _ => rfl)
  have hsub : ∀ x, x ∈ [119, 120, 121, 122, 134, t + 31] → x ∈ s6_ := by rcases ht with rfl | rfl <;> decide +kernel
  have h5 : 135 ∉ [119, 120, 121, 122, 134, t + 31] := by rcases ht with rfl | rfl <;> decide
  have hn4 := hV.nS.2
  unfold CC_
  refine x_life (by omega) hL hV hR.1 (by omega) (fun h σ1 hf1 h14 => ?_) (fun h σ1 hf1 h14 hl1 => ?_)
  · have hk1 : KF_ s6_ [14] [68] σ σ1 := kf_l0 hf1 hsub h5
    have h163 : σ1.1 163 = σ.1 163 := hf1.1 163 (by rcases ht with rfl | rfl <;> decide) (by decide)
    have hT1 : TM_ T σ1 := (hG.1.kf hk1 (by decide +kernel) (by decide)).2.1
    refine ⟨_, rfl, hk1.2.2.2.2.2.2, m_life (v := σ.1 163) (w := σ.1 163) (by omega) hT1 hV h163 (fun _ _ => rfl) hR.1 (by omega) (fun _ σ2 hf2 h68 => ?_) (fun h2 => by rw [h] at h2; cases h2)⟩
    have hk2 : KF_ s6_ [14] [68] σ1 σ2 := kf_fq hf2 (by decide) (by decide) (by decide)
    exact ⟨rfl, (hG.k6 (hk1.tr hk2) ⟨0, by decide, by rw [hf2.1 0 (by decide) (by decide)]; exact h14, h68, fun k hk => absurd hk (by omega)⟩).cp (by omega), (hk1.tr hk2).2.2.2.2.2.2⟩
  · have hk1 : KF_ s6_ [14] [68] σ σ1 := kf_l0 hf1 hsub h5
    have h163 : σ1.1 163 = σ.1 163 := hf1.1 163 (by rcases ht with rfl | rfl <;> decide) (by decide)
    have hT1 : TM_ T σ1 := (hG.1.kf hk1 (by decide +kernel) (by decide)).2.1
    refine ⟨_, rfl, hk1.2.2.2.2.2.2, m_life (v := σ.1 163) (w := σ.1 163) (by omega) hT1 hV h163 (fun _ _ => rfl) hR.1 (by omega) (fun h2 => by rw [h] at h2; cases h2) (fun _ σ2 hf2 h68 hl2 => ?_)⟩
    have hk2 : KF_ s6_ [14] [68] σ1 σ2 := kf_fq hf2 (by decide +kernel) (by decide) (by decide)
    exact ⟨rfl, (hG.k6 (hk1.tr hk2) ⟨nS_ T, by omega, by rw [hf2.1 0 (by decide) (by decide)]; exact h14, h68, fun k hk => by rw [hf2.1 134 (by decide) (by decide), hl1 k hk, hl2 k hk]⟩).cp (by omega), (hk1.tr hk2).2.2.2.2.2.2⟩
theorem cc_opening {d : Nat} (hd : 80 ≤ d) {b : Int} (hb0 : b ≤ 60000) {σ : am_S} (hC : CP_ b σ) {x0 : Int} (hx : -2147483648 ≤ x0 ∧ x0 ≤ 2147483647) : CC_ d 126 245 [am_I x0] b σ := by
  obtain ⟨T, t, a, e, hs, fb, G, ng, hG⟩ := hC
  have hV := hG.1.2.2.1
  have ht := hG.1.1
  obtain ⟨v, hv⟩ : ∃ v, v = cp_ (σ.1 163) (σ.1 164) 50 := ⟨_, rfl⟩
  obtain ⟨hL, hR⟩ := hG.pl (v := v) (fun j hj => by rw [hv, cp_at hj])
  have hW := hG.2.1.2.1.1
  have hn6 := hV.nP.2
  unfold CC_
  refine x_opening (by omega) hL hV hR.1 (by omega) hR.2.2 hx (fun h σ1 hf1 h14 => ?_) (fun h σ1 hf1 h14 hl1 => ?_)
  · have hk1 : KF_ s6_ [14] [68] σ σ1 := kf_l0 hf1 (by decide +kernel) (by decide)
    have h163 : σ1.1 163 = σ.1 163 := hf1.1 163 (by decide) (by decide)
    have h164 : σ1.1 164 = σ.1 164 := hf1.1 164 (by decide) (by decide)
    have hT1 : TM_ T σ1 := (hG.1.kf hk1 (by decide +kernel) (by decide)).2.1
    refine ⟨_, rfl, hk1.2.2.2.2.2.2, m_opening (v := v) (w := σ.1 163) (by omega) hT1 hV h163 (by rw [h164]; exact hv) hW (fun _ σ2 hf2 h68 => ?_) (fun h2 => by rw [h] at h2; cases h2)⟩
    have hk2 : KF_ s6_ [14] [68] σ1 σ2 := kf_fq hf2 (by decide +kernel) (by decide) (by decide)
    exact ⟨rfl, (hG.k6 (hk1.tr hk2) ⟨0, by decide, by rw [hf2.1 0 (by decide) (by decide)]; exact h14, h68, fun k hk => absurd hk (by omega)⟩).cp (by omega), (hk1.tr hk2).2.2.2.2.2.2⟩
  · have hk1 : KF_ s6_ [14] [68] σ σ1 := kf_l0 hf1 (by decide +kernel) (by decide)
    have h163 : σ1.1 163 = σ.1 163 := hf1.1 163 (by decide) (by decide)
    have h164 : σ1.1 164 = σ.1 164 := hf1.1 164 (by decide) (by decide)
    have hT1 : TM_ T σ1 := (hG.1.kf hk1 (by decide +kernel) (by decide)).2.1
    refine ⟨_, rfl, hk1.2.2.2.2.2.2, m_opening (v := v) (w := σ.1 163) (by omega) hT1 hV h163 (by rw [h164]; exact hv) hW (fun h2 => by rw [h] at h2; cases h2) (fun _ σ2 hf2 h68 hl2 => ?_)⟩
    have hk2 : KF_ s6_ [14] [68] σ1 σ2 := kf_fq hf2 (by decide +kernel) (by decide) (by decide)
    have hml := Nat.le_trans (mb_le x0.toNat (nP_ T)) hn6
    exact ⟨rfl, (hG.k6 (hk1.tr hk2) ⟨(mb_ x0.toNat (nP_ T)).length, hml, by rw [hf2.1 0 (by decide) (by decide)]; exact h14, h68, fun k hk => by rw [hf2.1 134 (by decide) (by decide), hl1 k hk, hl2 k hk]⟩).cp (by omega), (hk1.tr hk2).2.2.2.2.2.2⟩
theorem cc_rings {d : Nat} (hd : 80 ≤ d) {b : Int} (hb0 : b ≤ 60000) {σ : am_S} (hC : CP_ b σ) : CC_ d 125 243 [] b σ := by
  obtain ⟨T, t, a, e, hs, fb, G, ng, hG⟩ := hC
  have hV := hG.1.2.2.1
  have ht := hG.1.1
  obtain ⟨v, hv⟩ : ∃ v, v = cp_ (σ.1 163) (σ.1 164) 50 := ⟨_, rfl⟩
  obtain ⟨hL, hR⟩ := hG.pl (v := v) (fun j hj => by rw [hv, cp_at hj])
  have hW := hG.2.1.2.1.1
  have hn6 := hV.nP.2
  unfold CC_
  refine x_rings (by omega) hL hV hR.1 (by omega) (fun σ1 hf1 h14 hl1 ho1 => ?_)
  have hk1 : KF_ s6_ [14] [68] σ σ1 := kf_l0 hf1 (by decide +kernel) (by decide)
  have h163 : σ1.1 163 = σ.1 163 := hf1.1 163 (by decide) (by decide)
  have h164 : σ1.1 164 = σ.1 164 := hf1.1 164 (by decide) (by decide)
  have hT1 : TM_ T σ1 := (hG.1.kf hk1 (by decide +kernel) (by decide)).2.1
  refine ⟨_, rfl, hk1.2.2.2.2.2.2, m_rings (v := v) (w := σ.1 163) (by omega) hT1 hV h163 (by rw [h164]; exact hv) hW (fun σ2 hf2 h68 hl2 ho2 => ?_)⟩
  have hk2 : KF_ s6_ [14] [68] σ1 σ2 := kf_fq hf2 (by decide +kernel) (by decide) (by decide)
  refine ⟨rfl, (hG.k6 (hk1.tr hk2) ⟨nP_ T, hn6, by rw [hf2.1 0 (by decide) (by decide)]; exact h14, h68, fun p hp => ?_⟩).cp (by omega), (hk1.tr hk2).2.2.2.2.2.2⟩
  rw [hf2.1 134 (by decide) (by decide)]
  by_cases hx : ∃ k, k < (rm_ T v).length ∧ (rm_ T v).getD k 0 = p
  · obtain ⟨k, hk, rfl⟩ := hx
    rw [hl1 k hk, hl2 k hk]
  · have hno : ∀ k, k < (rm_ T v).length → (rm_ T v).getD k 0 ≠ p := fun k hk w => hx ⟨k, hk, w⟩
    rw [ho1 p hp hno, ho2 p hp hno]
