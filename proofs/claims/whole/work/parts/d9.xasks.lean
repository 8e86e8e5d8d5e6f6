theorem cc_person {d : Nat} (hd : 80 ≤ d) {b : Int} (hb0 : b ≤ 60000) {σ : am_S} (hC : CP_ b σ) {x0 x1 : Int} : CC_ d 97 200 [am_I x0, am_I x1] b σ := by
  obtain ⟨T, t, a, e, hs, fb, G, ng, hG⟩ := hC
  have hV := hG.1.2.2.1
  have ht := hG.1.1
  obtain ⟨v, hv⟩ : ∃ v, v = cp_ (σ.1 163) (σ.1 164) 50 := ⟨_, rfl⟩
  obtain ⟨hL, hR⟩ := hG.pl (v := v) (fun j hj => by rw [hv, cp_at hj])
  unfold CC_
  refine x_person (by omega) hL hV ?_
  refine ⟨_, rfl, rfl, ?_⟩
  refine m_person (by omega) hG.1.2.1 hV rfl hv hG.2.1.2.1.1 (by omega) (fun σ2 hf2 => ?_)
  have hk2 : KF_ sc_ [] [] σ σ2 := kf_fr hf2 (by decide) (by decide) (by decide)
  exact ⟨rfl, (hG.kf hk2).cp (by omega), hk2.2.2.2.2.2.2⟩
theorem cc_level {d : Nat} (hd : 80 ≤ d) {b : Int} (hb0 : b ≤ 60000) {σ : am_S} (hC : CP_ b σ) {x0 x1 : Int} : CC_ d 98 201 [am_I x0, am_I x1] b σ := by
  obtain ⟨T, t, a, e, hs, fb, G, ng, hG⟩ := hC
  have hV := hG.1.2.2.1
  have ht := hG.1.1
  obtain ⟨v, hv⟩ : ∃ v, v = cp_ (σ.1 163) (σ.1 164) 50 := ⟨_, rfl⟩
  obtain ⟨hL, hR⟩ := hG.pl (v := v) (fun j hj => by rw [hv, cp_at hj])
  unfold CC_
  refine x_level (by omega) hL hV ?_
  refine ⟨_, rfl, rfl, ?_⟩
  refine m_level (by omega) hG.1.2.1 hV rfl hv hG.2.1.2.1.1 (by omega) (fun σ2 hf2 => ?_)
  have hk2 : KF_ sc_ [] [] σ σ2 := kf_fr hf2 (by decide) (by decide) (by decide)
  exact ⟨rfl, (hG.kf hk2).cp (by omega), hk2.2.2.2.2.2.2⟩
theorem cc_order {d : Nat} (hd : 80 ≤ d) {b : Int} (hb0 : b ≤ 60000) {σ : am_S} (hC : CP_ b σ) {x0 x1 : Int} : CC_ d 99 202 [am_I x0, am_I x1] b σ := by
  obtain ⟨T, t, a, e, hs, fb, G, ng, hG⟩ := hC
  have hV := hG.1.2.2.1
  have ht := hG.1.1
  obtain ⟨v, hv⟩ : ∃ v, v = cp_ (σ.1 163) (σ.1 164) 50 := ⟨_, rfl⟩
  obtain ⟨hL, hR⟩ := hG.pl (v := v) (fun j hj => by rw [hv, cp_at hj])
  unfold CC_
  refine x_order (by omega) hL hV ?_
  refine ⟨_, rfl, rfl, ?_⟩
  refine m_order (by omega) hG.1.2.1 hV (fun σ2 hf2 => ?_)
  have hk2 : KF_ sc_ [] [] σ σ2 := kf_fr hf2 (by decide) (by decide) (by decide)
  exact ⟨rfl, (hG.kf hk2).cp (by omega), hk2.2.2.2.2.2.2⟩
theorem cc_share {d : Nat} (hd : 80 ≤ d) {b : Int} (hb0 : b ≤ 60000) {σ : am_S} (hC : CP_ b σ) {x0 x1 : Int} : CC_ d 100 203 [am_I x0, am_I x1] b σ := by
  obtain ⟨T, t, a, e, hs, fb, G, ng, hG⟩ := hC
  have hV := hG.1.2.2.1
  have ht := hG.1.1
  obtain ⟨v, hv⟩ : ∃ v, v = cp_ (σ.1 163) (σ.1 164) 50 := ⟨_, rfl⟩
  obtain ⟨hL, hR⟩ := hG.pl (v := v) (fun j hj => by rw [hv, cp_at hj])
  unfold CC_
  refine x_share (by omega) hL hV ?_
  refine ⟨_, rfl, rfl, ?_⟩
  refine m_share (by omega) hG.1.2.1 hV (fun σ2 hf2 => ?_)
  have hk2 : KF_ sc_ [] [] σ σ2 := kf_fr hf2 (by decide) (by decide) (by decide)
  exact ⟨rfl, (hG.kf hk2).cp (by omega), hk2.2.2.2.2.2.2⟩
theorem cc_many {d : Nat} (hd : 80 ≤ d) {b : Int} (hb0 : b ≤ 60000) {σ : am_S} (hC : CP_ b σ) {x0 : Int} : CC_ d 101 205 [am_I x0] b σ := by
  obtain ⟨T, t, a, e, hs, fb, G, ng, hG⟩ := hC
  have hV := hG.1.2.2.1
  have ht := hG.1.1
  obtain ⟨v, hv⟩ : ∃ v, v = cp_ (σ.1 163) (σ.1 164) 50 := ⟨_, rfl⟩
  obtain ⟨hL, hR⟩ := hG.pl (v := v) (fun j hj => by rw [hv, cp_at hj])
  unfold CC_
  refine x_many (by omega) hL hV ?_
  refine ⟨_, rfl, rfl, ?_⟩
  refine m_many (by omega) hG.1.2.1 hV rfl hv hG.2.1.2.1.1 (by omega) (fun σ2 hf2 => ?_)
  have hk2 : KF_ sc_ [] [] σ σ2 := kf_fr hf2 (by decide) (by decide) (by decide)
  exact ⟨rfl, (hG.kf hk2).cp (by omega), hk2.2.2.2.2.2.2⟩
theorem cc_able {d : Nat} (hd : 80 ≤ d) {b : Int} (hb0 : b ≤ 60000) {σ : am_S} (hC : CP_ b σ) {x0 : Int} : CC_ d 119 228 [am_I x0] b σ := by
  obtain ⟨T, t, a, e, hs, fb, G, ng, hG⟩ := hC
  have hV := hG.1.2.2.1
  have ht := hG.1.1
  obtain ⟨v, hv⟩ : ∃ v, v = cp_ (σ.1 163) (σ.1 164) 50 := ⟨_, rfl⟩
  obtain ⟨hL, hR⟩ := hG.pl (v := v) (fun j hj => by rw [hv, cp_at hj])
  unfold CC_
  refine x_able (by omega) hL hV ?_
  refine ⟨_, rfl, rfl, ?_⟩
  refine m_able (by omega) hG.1.2.1 hV rfl hv hG.2.1.2.1.1 (by omega) (fun σ2 hf2 => ?_)
  have hk2 : KF_ sc_ [] [] σ σ2 := kf_fr hf2 (by decide) (by decide) (by decide)
  exact ⟨rfl, (hG.kf hk2).cp (by omega), hk2.2.2.2.2.2.2⟩
theorem cc_ready {d : Nat} (hd : 80 ≤ d) {b : Int} (hb0 : b ≤ 60000) {σ : am_S} (hC : CP_ b σ) {x0 x1 : Int} : CC_ d 120 229 [am_I x0, am_I x1] b σ := by
  obtain ⟨T, t, a, e, hs, fb, G, ng, hG⟩ := hC
  have hV := hG.1.2.2.1
  have ht := hG.1.1
  obtain ⟨v, hv⟩ : ∃ v, v = cp_ (σ.1 163) (σ.1 164) 50 := ⟨_, rfl⟩
  obtain ⟨hL, hR⟩ := hG.pl (v := v) (fun j hj => by rw [hv, cp_at hj])
  unfold CC_
  refine x_ready (by omega) hL hV hR.1 (by omega) (fun σ1 hf1 => ?_)
  have hk1 : KF_ sc_ [] [] σ σ1 := kf_xf hf1 (by rcases ht with rfl | rfl <;> decide) (by rcases ht with rfl | rfl <;> decide) (by rcases ht with rfl | rfl <;> decide)
  have hG1 := hG.kf hk1
  have hv1 : v = cp_ (σ1.1 163) (σ1.1 164) 50 := by rw [hf1.1 163 (by rcases ht with rfl | rfl <;> decide), hf1.1 164 (by rcases ht with rfl | rfl <;> decide)]; exact hv
  refine ⟨_, rfl, hk1.2.2.2.2.2.2, ?_⟩
  refine m_ready (by omega) hG1.1.2.1 hV rfl hv1 hG1.2.1.2.1.1 (by omega) (fun σ2 hf2 => ?_)
  have hk2 : KF_ sc_ [] [] σ1 σ2 := kf_fr hf2 (by decide) (by decide) (by decide)
  exact ⟨rfl, (hG1.kf hk2).cp (by omega), hk2.2.2.2.2.2.2.trans hk1.2.2.2.2.2.2⟩
theorem cc_lost {d : Nat} (hd : 80 ≤ d) {b : Int} (hb0 : b ≤ 60000) {σ : am_S} (hC : CP_ b σ) {x0 : Int} : CC_ d 121 230 [am_I x0] b σ := by
  obtain ⟨T, t, a, e, hs, fb, G, ng, hG⟩ := hC
  have hV := hG.1.2.2.1
  have ht := hG.1.1
  obtain ⟨v, hv⟩ : ∃ v, v = cp_ (σ.1 163) (σ.1 164) 50 := ⟨_, rfl⟩
  obtain ⟨hL, hR⟩ := hG.pl (v := v) (fun j hj => by rw [hv, cp_at hj])
  unfold CC_
  refine x_lost (by omega) hL hV hR.1 (by omega) (fun σ1 hf1 => ?_)
  have hk1 : KF_ sc_ [] [] σ σ1 := kf_xf hf1 (by rcases ht with rfl | rfl <;> decide) (by rcases ht with rfl | rfl <;> decide) (by rcases ht with rfl | rfl <;> decide)
  have hG1 := hG.kf hk1
  have hv1 : v = cp_ (σ1.1 163) (σ1.1 164) 50 := by rw [hf1.1 163 (by rcases ht with rfl | rfl <;> decide), hf1.1 164 (by rcases ht with rfl | rfl <;> decide)]; exact hv
  refine ⟨_, rfl, hk1.2.2.2.2.2.2, ?_⟩
  refine m_lost (by omega) hG1.1.2.1 hV rfl hv1 hG1.2.1.2.1.1 (by omega) (fun σ2 hf2 => ?_)
  have hk2 : KF_ sc_ [] [] σ1 σ2 := kf_fr hf2 (by decide) (by decide) (by decide)
  exact ⟨rfl, (hG1.kf hk2).cp (by omega), hk2.2.2.2.2.2.2.trans hk1.2.2.2.2.2.2⟩
theorem cc_will {d : Nat} (hd : 80 ≤ d) {b : Int} (hb0 : b ≤ 60000) {σ : am_S} (hC : CP_ b σ) {x0 x1 : Int} : CC_ d 122 234 [am_I x0, am_I x1] b σ := by
  obtain ⟨T, t, a, e, hs, fb, G, ng, hG⟩ := hC
  have hV := hG.1.2.2.1
  have ht := hG.1.1
  obtain ⟨v, hv⟩ : ∃ v, v = cp_ (σ.1 163) (σ.1 164) 50 := ⟨_, rfl⟩
  obtain ⟨hL, hR⟩ := hG.pl (v := v) (fun j hj => by rw [hv, cp_at hj])
  unfold CC_
  refine x_will (by omega) hL hV hR.1 (by omega) hR.2.2 (fun σ1 hf1 => ?_)
  have hk1 : KF_ sc_ [] [] σ σ1 := kf_xf hf1 (by rcases ht with rfl | rfl <;> decide) (by rcases ht with rfl | rfl <;> decide) (by rcases ht with rfl | rfl <;> decide)
  have hG1 := hG.kf hk1
  have hv1 : v = cp_ (σ1.1 163) (σ1.1 164) 50 := by rw [hf1.1 163 (by rcases ht with rfl | rfl <;> decide), hf1.1 164 (by rcases ht with rfl | rfl <;> decide)]; exact hv
  refine ⟨_, rfl, hk1.2.2.2.2.2.2, ?_⟩
  refine m_will (by omega) hG1.1.2.1 hV rfl hv1 hG1.2.1.2.1.1 (by omega) (fun σ2 hf2 => ?_)
  have hk2 : KF_ sc_ [] [] σ1 σ2 := kf_fr hf2 (by decide) (by decide) (by decide)
  exact ⟨rfl, (hG1.kf hk2).cp (by omega), hk2.2.2.2.2.2.2.trans hk1.2.2.2.2.2.2⟩
theorem cc_first {d : Nat} (hd : 80 ≤ d) {b : Int} (hb0 : b ≤ 60000) {σ : am_S} (hC : CP_ b σ) {x0 : Int} : CC_ d 123 236 [am_I x0] b σ := by
  obtain ⟨T, t, a, e, hs, fb, G, ng, hG⟩ := hC
  have hV := hG.1.2.2.1
  have ht := hG.1.1
  obtain ⟨v, hv⟩ : ∃ v, v = cp_ (σ.1 163) (σ.1 164) 50 := ⟨_, rfl⟩
  obtain ⟨hL, hR⟩ := hG.pl (v := v) (fun j hj => by rw [hv, cp_at hj])
  unfold CC_
  refine x_first (by omega) hL hV hR.1 (by omega) hR.2.2 (fun σ1 hf1 => ?_)
  have hk1 : KF_ sc_ [] [] σ σ1 := kf_xf hf1 (by rcases ht with rfl | rfl <;> decide) (by rcases ht with rfl | rfl <;> decide) (by rcases ht with rfl | rfl <;> decide)
  have hG1 := hG.kf hk1
  have hv1 : v = cp_ (σ1.1 163) (σ1.1 164) 50 := by rw [hf1.1 163 (by rcases ht with rfl | rfl <;> decide), hf1.1 164 (by rcases ht with rfl | rfl <;> decide)]; exact hv
  refine ⟨_, rfl, hk1.2.2.2.2.2.2, ?_⟩
  refine m_first (by omega) hG1.1.2.1 hV rfl hv1 hG1.2.1.2.1.1 (by omega) (fun σ2 hf2 => ?_)
  have hk2 : KF_ sc_ [] [] σ1 σ2 := kf_fr hf2 (by decide) (by decide) (by decide)
  exact ⟨rfl, (hG1.kf hk2).cp (by omega), hk2.2.2.2.2.2.2.trans hk1.2.2.2.2.2.2⟩
theorem cc_odds {d : Nat} (hd : 80 ≤ d) {b : Int} (hb0 : b ≤ 60000) {σ : am_S} (hC : CP_ b σ) {x0 x1 : Int} : CC_ d 113 225 [am_I x0, am_I x1] b σ := by
  obtain ⟨T, t, a, e, hs, fb, G, ng, hG⟩ := hC
  have hV := hG.1.2.2.1
  have ht := hG.1.1
  obtain ⟨v, hv⟩ : ∃ v, v = cp_ (σ.1 163) (σ.1 164) 50 := ⟨_, rfl⟩
  obtain ⟨hL, hR⟩ := hG.pl (v := v) (fun j hj => by rw [hv, cp_at hj])
  unfold CC_
  refine x_odds (by omega) hL hV hR.1 (by omega) (fun σ1 hf1 => ?_)
  have hk1 : KF_ sc_ [] [] σ σ1 := kf_xf hf1 (by rcases ht with rfl | rfl <;> decide) (by rcases ht with rfl | rfl <;> decide) (by rcases ht with rfl | rfl <;> decide)
  have hG1 := hG.kf hk1
  have hv1 : v = cp_ (σ1.1 163) (σ1.1 164) 50 := by rw [hf1.1 163 (by rcases ht with rfl | rfl <;> decide), hf1.1 164 (by rcases ht with rfl | rfl <;> decide)]; exact hv
  refine ⟨_, rfl, hk1.2.2.2.2.2.2, ?_⟩
  refine m_odds (by omega) hG1.1.2.1 hV rfl hv1 hG1.2.1.2.1.1 (by omega) (fun σ2 hf2 => ?_)
  have hk2 : KF_ sc_ [] [] σ1 σ2 := kf_fr hf2 (by decide) (by decide) (by decide)
  exact ⟨rfl, (hG1.kf hk2).cp (by omega), hk2.2.2.2.2.2.2.trans hk1.2.2.2.2.2.2⟩
theorem cc_hope {d : Nat} (hd : 80 ≤ d) {b : Int} (hb0 : b ≤ 60000) {σ : am_S} (hC : CP_ b σ) {x0 x1 : Int} : CC_ d 114 227 [am_I x0, am_I x1] b σ := by
  obtain ⟨T, t, a, e, hs, fb, G, ng, hG⟩ := hC
  have hV := hG.1.2.2.1
  have ht := hG.1.1
  obtain ⟨v, hv⟩ : ∃ v, v = cp_ (σ.1 163) (σ.1 164) 50 := ⟨_, rfl⟩
  obtain ⟨hL, hR⟩ := hG.pl (v := v) (fun j hj => by rw [hv, cp_at hj])
  unfold CC_
  refine x_hope (by omega) hL hV hR.1 (by omega) (fun σ1 hf1 => ?_)
  have hk1 : KF_ sc_ [] [] σ σ1 := kf_xf hf1 (by rcases ht with rfl | rfl <;> decide) (by rcases ht with rfl | rfl <;> decide) (by rcases ht with rfl | rfl <;> decide)
  have hG1 := hG.kf hk1
  have hv1 : v = cp_ (σ1.1 163) (σ1.1 164) 50 := by rw [hf1.1 163 (by rcases ht with rfl | rfl <;> decide), hf1.1 164 (by rcases ht with rfl | rfl <;> decide)]; exact hv
  refine ⟨_, rfl, hk1.2.2.2.2.2.2, ?_⟩
  refine m_hope (by omega) hG1.1.2.1 hV rfl hv1 hG1.2.1.2.1.1 (by omega) (fun σ2 hf2 => ?_)
  have hk2 : KF_ sc_ [] [] σ1 σ2 := kf_fr hf2 (by decide) (by decide) (by decide)
  exact ⟨rfl, (hG1.kf hk2).cp (by omega), hk2.2.2.2.2.2.2.trans hk1.2.2.2.2.2.2⟩
theorem cc_law {d : Nat} (hd : 80 ≤ d) {b : Int} (hb0 : b ≤ 60000) {σ : am_S} (hC : CP_ b σ) {x0 x1 : Int} : CC_ d 127 247 [am_I x0, am_I x1] b σ := by
  obtain ⟨T, t, a, e, hs, fb, G, ng, hG⟩ := hC
  have hV := hG.1.2.2.1
  have ht := hG.1.1
  obtain ⟨v, hv⟩ : ∃ v, v = cp_ (σ.1 163) (σ.1 164) 50 := ⟨_, rfl⟩
  obtain ⟨hL, hR⟩ := hG.pl (v := v) (fun j hj => by rw [hv, cp_at hj])
  unfold CC_
  refine x_law (by omega) hL hV hR.1 (by omega) hR.2.2 (fun σ1 hf1 => ?_)
  have hk1 : KF_ sc_ [] [] σ σ1 := kf_xf hf1 (by rcases ht with rfl | rfl <;> decide) (by rcases ht with rfl | rfl <;> decide) (by rcases ht with rfl | rfl <;> decide)
  have hG1 := hG.kf hk1
  have hv1 : v = cp_ (σ1.1 163) (σ1.1 164) 50 := by rw [hf1.1 163 (by rcases ht with rfl | rfl <;> decide), hf1.1 164 (by rcases ht with rfl | rfl <;> decide)]; exact hv
  refine ⟨_, rfl, hk1.2.2.2.2.2.2, ?_⟩
  refine m_law (by omega) hG1.1.2.1 hV rfl hv1 hG1.2.1.2.1.1 (by omega) (fun σ2 hf2 => ?_)
  have hk2 : KF_ sc_ [] [] σ1 σ2 := kf_fr hf2 (by decide) (by decide) (by decide)
  exact ⟨rfl, (hG1.kf hk2).cp (by omega), hk2.2.2.2.2.2.2.trans hk1.2.2.2.2.2.2⟩
theorem cc_meant {d : Nat} (hd : 80 ≤ d) {b : Int} (hb0 : b ≤ 60000) {σ : am_S} (hC : CP_ b σ) {x0 x1 : Int} : CC_ d 133 254 [am_I x0, am_I x1] b σ := by
  obtain ⟨T, t, a, e, hs, fb, G, ng, hG⟩ := hC
  have hV := hG.1.2.2.1
  have ht := hG.1.1
  obtain ⟨v, hv⟩ : ∃ v, v = cp_ (σ.1 163) (σ.1 164) 50 := ⟨_, rfl⟩
  obtain ⟨hL, hR⟩ := hG.pl (v := v) (fun j hj => by rw [hv, cp_at hj])
  unfold CC_
  refine x_meant (by omega) hL hV hG.2.2.2.1.2 ?_
  refine ⟨_, rfl, rfl, ?_⟩
  refine m_meant (by omega) hG.1.2.1 hV hG.2.2.2.1.1 (fun σ2 hf2 => ?_)
  have hk2 : KF_ sc_ [] [] σ σ2 := kf_fr hf2 (by decide) (by decide) (by decide)
  exact ⟨rfl, (hG.kf hk2).cp (by omega), hk2.2.2.2.2.2.2⟩
theorem cc_likely {d : Nat} (hd : 80 ≤ d) {b : Int} (hb0 : b ≤ 60000) {σ : am_S} (hC : CP_ b σ) {x0 x1 : Int} : CC_ d 134 255 [am_I x0, am_I x1] b σ := by
  obtain ⟨T, t, a, e, hs, fb, G, ng, hG⟩ := hC
  have hV := hG.1.2.2.1
  have ht := hG.1.1
  obtain ⟨v, hv⟩ : ∃ v, v = cp_ (σ.1 163) (σ.1 164) 50 := ⟨_, rfl⟩
  obtain ⟨hL, hR⟩ := hG.pl (v := v) (fun j hj => by rw [hv, cp_at hj])
  unfold CC_
  refine x_likely (by omega) hL hV hG.2.2.2.1.2 ?_
  refine ⟨_, rfl, rfl, ?_⟩
  refine m_likely (by omega) hG.1.2.1 hV hG.2.2.2.1.1 (fun σ2 hf2 => ?_)
  have hk2 : KF_ sc_ [] [] σ σ2 := kf_fr hf2 (by decide) (by decide) (by decide)
  exact ⟨rfl, (hG.kf hk2).cp (by omega), hk2.2.2.2.2.2.2⟩
theorem cc_ask {d : Nat} (hd : 80 ≤ d) {b : Int} (hb0 : b ≤ 60000) {σ : am_S} (hC : CP_ b σ) {x0 x1 x2 : Int} : CC_ d 135 257 [am_I x0, am_I x1, am_I x2] b σ := by
  obtain ⟨T, t, a, e, hs, fb, G, ng, hG⟩ := hC
  have hV := hG.1.2.2.1
  have ht := hG.1.1
  obtain ⟨v, hv⟩ : ∃ v, v = cp_ (σ.1 163) (σ.1 164) 50 := ⟨_, rfl⟩
  obtain ⟨hL, hR⟩ := hG.pl (v := v) (fun j hj => by rw [hv, cp_at hj])
  unfold CC_
  refine x_ask (by omega) hL hV hG.2.2.2.1.2 ?_
  refine ⟨_, rfl, rfl, ?_⟩
  refine m_ask (by omega) hG.1.2.1 hV hG.2.2.2.1.1 (fun σ2 hf2 => ?_)
  have hk2 : KF_ sc_ [] [] σ σ2 := kf_fr hf2 (by decide) (by decide) (by decide)
  exact ⟨rfl, (hG.kf hk2).cp (by omega), hk2.2.2.2.2.2.2⟩
theorem cc_done {d : Nat} (hd : 80 ≤ d) {b : Int} (hb0 : b ≤ 60000) {σ : am_S} (hC : CP_ b σ) : CC_ d 102 206 [] b σ := by
  obtain ⟨T, t, a, e, hs, fb, G, ng, hG⟩ := hC
  have hV := hG.1.2.2.1
  have ht := hG.1.1
  obtain ⟨hL, hR⟩ := hG.pl (v := σ.1 163) (fun _ _ => rfl)
  unfold CC_
  refine x_done (by omega) hL hV hR.1 (by omega) hR.2.2 ?_
  exact ⟨_, rfl, rfl, m_done (by omega) rfl ⟨rfl, hG.cp (by omega), rfl⟩⟩
theorem cc_lies {d : Nat} (hd : 80 ≤ d) {b : Int} (hb0 : b ≤ 60000) {σ : am_S} (hC : CP_ b σ) {x0 : Int} : CC_ d 129 248 [am_I x0] b σ := by
  obtain ⟨T, t, a, e, hs, fb, G, ng, hG⟩ := hC
  have hV := hG.1.2.2.1
  have ht := hG.1.1
  obtain ⟨l, l6, l1, l2, l3⟩ := hG.2.2.2.2.2.1
  unfold CC_
  refine x_lies (by omega) l1 (by omega) ?_
  refine ⟨_, rfl, rfl, ?_⟩
  refine m_lies (by omega) l2 l6 (fun σ2 hf2 => ?_)
  have hk2 : KF_ sc_ [] [] σ σ2 := kf_fr hf2 (by decide) (by decide) (by decide)
  refine ⟨?_, (hG.kf hk2).cp (by omega), hk2.2.2.2.2.2.2⟩
  cases hi : inr_ l x0 with
  | false => rfl
  | true =>
    obtain ⟨k, rfl, hk⟩ := inr_t hi
    simp only [if_true, Int.toNat_natCast]
    rw [l3 k hk]
theorem cc_fault {d : Nat} (hd : 80 ≤ d) {b : Int} (hb0 : b ≤ 60000) {σ : am_S} (hC : CP_ b σ) {x0 : Int} : CC_ d 95 186 [am_I x0] b σ := by
  obtain ⟨T, t, a, e, hs, fb, G, ng, hG⟩ := hC
  have hV := hG.1.2.2.1
  have ht := hG.1.1
  have h8 := hG.2.2.2.2.2.2.2.1
  unfold CC_
  refine x_fault (by omega) ?_
  refine ⟨_, rfl, rfl, ?_⟩
  refine m_fault (by omega) (fun σ2 hf2 => ?_)
  have hk2 : KF_ sc_ [] [] σ σ2 := kf_fr hf2 (by decide) (by decide) (by decide)
  exact ⟨by rw [h8.1, h8.2], (hG.kf hk2).cp (by omega), hk2.2.2.2.2.2.2⟩
theorem cc_about {d : Nat} (hd : 80 ≤ d) {b : Int} (hb0 : b ≤ 60000) {σ : am_S} (hC : CP_ b σ) {x0 : Int} : CC_ d 138 261 [am_I x0] b σ := by
  obtain ⟨T, t, a, e, hs, fb, G, ng, hG⟩ := hC
  have hV := hG.1.2.2.1
  have ht := hG.1.1
  obtain ⟨hL, hR⟩ := hG.pl (v := σ.1 163) (fun _ _ => rfl)
  have hT := hG.1.2.1
  obtain ⟨tm, tm1, tm2, tm3⟩ := hG.2.2.2.2.1
  obtain ⟨l, l6, l1, l2, l3⟩ := hG.2.2.2.2.2.1
  obtain ⟨n, n1, n2, n3, n4⟩ := hG.2.2.2.2.2.2.1
  have h9 : σ.1 68 2 = σ.1 135 56 := hG.2.2.2.2.2.2.2.2.1
  have hM := hG.2.1.2.2.1
  have hH := hG.2.1.2.2.2.1
  have hS := hG.2.2.2.1
  unfold CC_
  refine x_about (by omega) hL hV ?_
  refine ⟨_, rfl, rfl, ?_⟩
  refine m_about (by omega) ⟨?_, hG.cp (by omega), rfl⟩
  unfold FA_ F_about
  rw [hT.s53, hT.s50, hT.s51, hT.s52, hT.s54, hT.s55, hT.s21, h9, tm2, tm3, l1, l2, n3, n4, hM.1, hM.2.1, hH.1, hH.2.1, hS.1.1, hS.2.ct]
