theorem DN_.how {T : sp_T} {v : sp_V} (h : DN_ T v) (h6 : nP_ T ≤ 6) {p : Nat} {z : Int} (hv : v (12 + p) ≠ 2) (hz : z ≠ 2) (hp6 : p < 6) : DN_ T (am_up v (12 + p) z) := by
  refine ⟨fun q hq e => ?_, by rw [am_up_ne (by omega), h.2, dn_x hv hz _ h6]⟩
  by_cases w : q = p
  · rw [w, am_up_same] at e
    exact absurd e hz
  · rw [am_up_ne (by omega)] at e
    rw [am_up_ne (by omega)]
    exact h.1 q hq e
theorem DN_.pre {T : sp_T} {v : sp_V} (h : DN_ T v) (h6 : nP_ T ≤ 6) {p : Nat} {z : Int} (hp : p < nP_ T) : DN_ T (am_up v (18 + p) z) := h.cg (fun j hj => ⟨am_up_ne (by omega), am_up_ne (by omega)⟩) (am_up_ne (by omega))
/-- behind an act: a new row is kept -/
theorem G2_.act {T : sp_T} (hV : TV_ T) {b b' : Int} {a e : Nat} {hs : Nat → sp_V} {σ σ1 σ2 : am_S} (h : G2_ T b a e hs σ) (hb : b ≤ b') {r : sp_V} (hr : GR_ T b' r) {t : Nat} (hL : PL_ 68 t T r σ1) (hH : XH_ T (ha_ a) 0 (hk_ a hs r) σ1) (hM : MH_ (ha_ a) 0 (hk_ a hs r) σ2) (h2 : ∀ c, c < 135 → σ2.1 c = σ1.1 c) : G2_ T b' (ha_ a) 0 (hk_ a hs r) σ2 := by
  have hk : hk_ a hs r (ha_ a) = r := by
    unfold hk_
    rw [if_neg (by omega)]
  have hrow : ∀ j, j < 50 → σ2.1 163 j = r j := fun j hj => by
    rw [hM.2.2.2.2.2 j hj, hk]
  refine ⟨by rw [h2 69 (by decide)]; exact hL.rw.cg hV.nP.2 hrow, hr.cg hV hrow, hM, hH.cg (fun c hc => h2 c (by omega)), fun i hi => ?_⟩
  unfold hk_
  by_cases q : i < ha_ a
  · rw [if_pos q]
    refine (h.2.2.2.2 _ ?_).le hb
    have h40 := h.2.2.1.2.2.1
    unfold ha_ at q
    by_cases w : a = 40
    · rw [if_pos w] at q ⊢
      omega
    · rw [if_neg w] at q ⊢
      omega
  · rw [if_neg q]
    exact hr
theorem G2_.step {T : sp_T} (hV : TV_ T) {b : Int} {a e a' e' : Nat} {hs : Nat → sp_V} {σ σ1 σ2 : am_S} (h : G2_ T b a e hs σ) (hae : a' + e' = a + e) {t : Nat} (hL : PL_ 68 t T (hs a') σ1) (hH : XH_ T a' e' hs σ1) (hM : MH_ a' e' hs σ2) (h2 : ∀ c, c < 135 → σ2.1 c = σ1.1 c) : G2_ T b a' e' hs σ2 := by
  have hrow : ∀ j, j < 50 → σ2.1 163 j = hs a' j := fun j hj => hM.2.2.2.2.2 j hj
  exact ⟨by rw [h2 69 (by decide)]; exact hL.rw.cg hV.nP.2 hrow, (h.2.2.2.2 a' (by omega)).cg hV hrow, hM, hH.cg (fun c hc => h2 c (by omega)), fun i hi => h.2.2.2.2 i (by omega)⟩
theorem fq_lo {A F : List Nat} {σ σ' : am_S} (h : fq_ A F σ σ') (hA : ∀ a, a ∈ A → 135 < a) : ∀ c, c < 135 → σ'.1 c = σ.1 c := fun c hc => h.1 c (fun q => by have := hA c q; omega) (by omega)
theorem hz_hi {t : Nat} (ht : t = 2 ∨ t = 34) {σ σ' : am_S} (h : hz_ t σ σ') : ∀ c, 115 ≤ c → σ'.1 c = σ.1 c := fun c hc => h.1 c (by omega) (by omega) (by omega) (by omega)

theorem cc_prepare {d : Nat} (hd : 80 ≤ d) {b : Int} (hb0 : b ≤ 60000) {σ : am_S} (hC : CP_ b σ) {x0 x1 : Int} : CC_ d 105 211 [am_I x0, am_I x1] b σ := by
  obtain ⟨T, t, a, e, hs, fb, G, ng, hG⟩ := hC
  have hV := hG.1.2.2.1
  have ht := hG.1.1
  have h6 := hV.nP
  have hS := hV.nS
  have hO := hV.nO
  have hH := hG.2.1.2.2.2.1
  have hM := hG.2.1.2.2.1
  obtain ⟨v, hv⟩ : ∃ v, v = σ.1 163 := ⟨_, rfl⟩
  obtain ⟨hL, hR⟩ := hG.pl (v := v) (fun j _ => by rw [hv])
  unfold CC_
  refine x_prepare (by omega) hL hV hR.1 (by omega) hR.2.2 hH (fun h => ?_) (fun h σ1 hf1 hL1 hH1 => ?_)
  · exact ⟨_, rfl, rfl, m_prepare (w := v) (by omega) hG.1.2.1 hV hv.symm hR.1 (by omega) hM (fun _ => ⟨rfl, hG.cp (by omega), rfl⟩) (fun h2 => by rw [h] at h2; cases h2)⟩
  · have hk1 : KF_ s2_ [] [64, 65] σ σ1 := kf_hz ht hf1 (by decide +kernel)
    have q1 := hz_hi ht hf1
    have h163 : σ1.1 163 = σ.1 163 := q1 163 (by decide)
    have h164 : σ1.1 164 = σ.1 164 := q1 164 (by decide)
    have hT1 : TM_ T σ1 := (hG.1.kf hk1 (by decide +kernel) (by decide)).2.1
    have hM1 : MH_ a e hs σ1 := hM.cg (by rw [q1 135 (by decide)]) (by rw [q1 135 (by decide)]) (q1 165 (by decide)) h163
    rw [Bool.and_eq_true, Bool.or_eq_true] at h
    obtain ⟨p, rfl, hp, hsh⟩ := sn_t h.1
    have hs1 : -1 ≤ x1 ∧ x1 < T 135 50 := by
      rcases h.2 with q | q
      · have := of_decide_eq_true q
        omega
      · obtain ⟨k, rfl, hk⟩ := inr_t q
        omega
    have hrow : GR_ T (b + 1) (am_up v (18 + (p : Int).toNat) x1) := by
      rw [Int.toNat_natCast]
      exact ⟨(hR.1.le (by omega)).up (fun q => by omega) (fun q => by omega) (fun r hr q => by omega) (fun r hr q => by omega) (fun r hr q => by omega) (fun r hr q => hs1) (fun r s hr hs q => by omega), by rw [am_up_ne (by omega)]; exact hR.2.1, hR.2.2.pre h6.2 hp⟩
    have h : (sn_ T v (p : Int) && (decide (x1 = -1) || inr_ (nS_ T) x1)) = true := by rw [Bool.and_eq_true, Bool.or_eq_true]; exact h
    refine ⟨_, rfl, hk1.2.2.2.2.2.2, m_prepare (w := v) (by omega) hT1 hV (h163.trans hv.symm) hR.1 (by omega) hM1 (fun h2 => by rw [h] at h2; cases h2) (fun _ σ2 hf2 hM2 => ?_)⟩
    have hk2 : KF_ s2_ [] [64, 65] σ1 σ2 := kf_fq hf2 (by decide +kernel) (by decide) (by decide)
    exact ⟨rfl, (hG.k2 (hk1.tr hk2) (show b ≤ b + 1 by omega) (G2_.act hV hG.2.1 (by omega) hrow hL1 hH1 hM2 (fq_lo hf2 (by decide)))).cp (Int.le_refl _), (hk1.tr hk2).2.2.2.2.2.2⟩
theorem cc_steam {d : Nat} (hd : 80 ≤ d) {b : Int} (hb0 : b ≤ 60000) {σ : am_S} (hC : CP_ b σ) {x0 : Int} : CC_ d 106 212 [am_I x0] b σ := by
  obtain ⟨T, t, a, e, hs, fb, G, ng, hG⟩ := hC
  have hV := hG.1.2.2.1
  have ht := hG.1.1
  have h6 := hV.nP
  have hS := hV.nS
  have hO := hV.nO
  have hH := hG.2.1.2.2.2.1
  have hM := hG.2.1.2.2.1
  obtain ⟨v, hv⟩ : ∃ v, v = σ.1 163 := ⟨_, rfl⟩
  obtain ⟨hL, hR⟩ := hG.pl (v := v) (fun j _ => by rw [hv])
  unfold CC_
  refine x_steam (by omega) hL hV hR.1 (by omega) hR.2.2 hH (fun h => ?_) (fun h σ1 hf1 hL1 hH1 => ?_)
  · exact ⟨_, rfl, rfl, m_steam (w := v) (by omega) hG.1.2.1 hV hv.symm hR.1 (by omega) hM (fun _ => ⟨rfl, hG.cp (by omega), rfl⟩) (fun h2 => by rw [h] at h2; cases h2)⟩
  · have hk1 : KF_ s2_ [] [64, 65] σ σ1 := kf_hz ht hf1 (by decide +kernel)
    have q1 := hz_hi ht hf1
    have h163 : σ1.1 163 = σ.1 163 := q1 163 (by decide)
    have h164 : σ1.1 164 = σ.1 164 := q1 164 (by decide)
    have hT1 : TM_ T σ1 := (hG.1.kf hk1 (by decide +kernel) (by decide)).2.1
    have hM1 : MH_ a e hs σ1 := hM.cg (by rw [q1 135 (by decide)]) (by rw [q1 135 (by decide)]) (q1 165 (by decide)) h163
    have h0 := h
    rw [Bool.and_eq_true] at h0
    obtain ⟨p, rfl, hp⟩ := inr_t h0.1
    have h12 : v (12 + p) = 0 := by have := of_decide_eq_true h0.2; rw [Int.toNat_natCast] at this; exact this
    have hrow : GR_ T (b + 1) (am_up v (12 + (p : Int).toNat) 1) := by
      rw [Int.toNat_natCast]
      exact ⟨(hR.1.le (by omega)).up (fun q => by omega) (fun q => by omega) (fun r hr q => by omega) (fun r hr q => by omega) (fun r hr q => by omega) (fun r hr q => by omega) (fun r s hr hs q => by omega), by rw [am_up_ne (by omega)]; exact hR.2.1, hR.2.2.how h6.2 (by omega) (by decide) (by omega)⟩
    refine ⟨_, rfl, hk1.2.2.2.2.2.2, m_steam (w := v) (by omega) hT1 hV (h163.trans hv.symm) hR.1 (by omega) hM1 (fun h2 => by rw [h] at h2; cases h2) (fun _ σ2 hf2 hM2 => ?_)⟩
    have hk2 : KF_ s2_ [] [64, 65] σ1 σ2 := kf_fq hf2 (by decide +kernel) (by decide) (by decide)
    exact ⟨rfl, (hG.k2 (hk1.tr hk2) (show b ≤ b + 1 by omega) (G2_.act hV hG.2.1 (by omega) hrow hL1 hH1 hM2 (fq_lo hf2 (by decide)))).cp (Int.le_refl _), (hk1.tr hk2).2.2.2.2.2.2⟩
theorem cc_forge {d : Nat} (hd : 80 ≤ d) {b : Int} (hb0 : b ≤ 60000) {σ : am_S} (hC : CP_ b σ) {x0 x1 : Int} : CC_ d 108 214 [am_I x0, am_I x1] b σ := by
  obtain ⟨T, t, a, e, hs, fb, G, ng, hG⟩ := hC
  have hV := hG.1.2.2.1
  have ht := hG.1.1
  have h6 := hV.nP
  have hS := hV.nS
  have hO := hV.nO
  have hH := hG.2.1.2.2.2.1
  have hM := hG.2.1.2.2.1
  obtain ⟨v, hv⟩ : ∃ v, v = σ.1 163 := ⟨_, rfl⟩
  obtain ⟨hL, hR⟩ := hG.pl (v := v) (fun j _ => by rw [hv])
  unfold CC_
  refine x_forge (by omega) hL hV hR.1 (by omega) hR.2.2 hH (fun h => ?_) (fun h σ1 hf1 hL1 hH1 => ?_)
  · exact ⟨_, rfl, rfl, m_forge (w := v) (by omega) hG.1.2.1 hV hv.symm hR.1 (by omega) hM (fun _ => ⟨rfl, hG.cp (by omega), rfl⟩) (fun h2 => by rw [h] at h2; cases h2)⟩
  · have hk1 : KF_ s2_ [] [64, 65] σ σ1 := kf_hz ht hf1 (by decide +kernel)
    have q1 := hz_hi ht hf1
    have h163 : σ1.1 163 = σ.1 163 := q1 163 (by decide)
    have h164 : σ1.1 164 = σ.1 164 := q1 164 (by decide)
    have hT1 : TM_ T σ1 := (hG.1.kf hk1 (by decide +kernel) (by decide)).2.1
    have hM1 : MH_ a e hs σ1 := hM.cg (by rw [q1 135 (by decide)]) (by rw [q1 135 (by decide)]) (q1 165 (by decide)) h163
    have h0 := h
    rw [Bool.and_eq_true] at h0
    obtain ⟨p, rfl, hp, hsh⟩ := sn_t h0.1
    obtain ⟨o, rfl, ho⟩ := inr_t h0.2
    have h12 : v (12 + p) < 2 := of_decide_eq_true hsh
    have hrow : GR_ T (b + 1) (am_up (am_up v (6 + (p : Int).toNat) (o : Int)) (12 + (p : Int).toNat) 1) := by
      rw [Int.toNat_natCast]
      refine ⟨VV_.up (VV_.up (hR.1.le (by omega)) (fun q => by omega) (fun q => by omega) (fun r hr q => by omega) (fun r hr q => by omega) (fun r hr q => by omega) (fun r hr q => by omega) (fun r s hr hs q => by omega)) (fun q => by omega) (fun q => by omega) (fun r hr q => by omega) (fun r hr q => by omega) (fun r hr q => by omega) (fun r hr q => by omega) (fun r s hr hs q => by omega), by rw [am_up_ne (by omega), am_up_ne (by omega)]; exact hR.2.1, (hR.2.2.hd h6.2 hp (by omega)).how h6.2 (by rw [am_up_ne (by omega)]; omega) (by decide) (by omega)⟩
    refine ⟨_, rfl, hk1.2.2.2.2.2.2, m_forge (w := v) (by omega) hT1 hV (h163.trans hv.symm) hR.1 (by omega) hM1 (fun h2 => by rw [h] at h2; cases h2) (fun _ σ2 hf2 hM2 => ?_)⟩
    have hk2 : KF_ s2_ [] [64, 65] σ1 σ2 := kf_fq hf2 (by decide +kernel) (by decide) (by decide)
    exact ⟨rfl, (hG.k2 (hk1.tr hk2) (show b ≤ b + 1 by omega) (G2_.act hV hG.2.1 (by omega) hrow hL1 hH1 hM2 (fq_lo hf2 (by decide)))).cp (Int.le_refl _), (hk1.tr hk2).2.2.2.2.2.2⟩
theorem cc_swap {d : Nat} (hd : 80 ≤ d) {b : Int} (hb0 : b ≤ 60000) {σ : am_S} (hC : CP_ b σ) {x0 x1 : Int} : CC_ d 107 213 [am_I x0, am_I x1] b σ := by
  obtain ⟨T, t, a, e, hs, fb, G, ng, hG⟩ := hC
  have hV := hG.1.2.2.1
  have ht := hG.1.1
  have h6 := hV.nP
  have hS := hV.nS
  have hO := hV.nO
  have hH := hG.2.1.2.2.2.1
  have hM := hG.2.1.2.2.1
  obtain ⟨v, hv⟩ : ∃ v, v = σ.1 163 := ⟨_, rfl⟩
  obtain ⟨hL, hR⟩ := hG.pl (v := v) (fun j _ => by rw [hv])
  unfold CC_
  refine x_swap (by omega) hL hV hR.1 (by omega) hR.2.2 hH (fun h => ?_) (fun h σ1 hf1 hL1 hH1 => ?_)
  · exact ⟨_, rfl, rfl, m_swap (w := v) (by omega) hG.1.2.1 hV hv.symm hR.1 (by omega) hM (fun _ => ⟨rfl, hG.cp (by omega), rfl⟩) (fun h2 => by rw [h] at h2; cases h2)⟩
  · have hk1 : KF_ s2_ [] [64, 65] σ σ1 := kf_hz ht hf1 (by decide +kernel)
    have q1 := hz_hi ht hf1
    have h163 : σ1.1 163 = σ.1 163 := q1 163 (by decide)
    have h164 : σ1.1 164 = σ.1 164 := q1 164 (by decide)
    have hT1 : TM_ T σ1 := (hG.1.kf hk1 (by decide +kernel) (by decide)).2.1
    have hM1 : MH_ a e hs σ1 := hM.cg (by rw [q1 135 (by decide)]) (by rw [q1 135 (by decide)]) (q1 165 (by decide)) h163
    have h0 := h
    rw [Bool.and_eq_true, Bool.and_eq_true] at h0
    obtain ⟨p, rfl, hp, hsh⟩ := sn_t h0.1
    obtain ⟨o, rfl, ho, hsh2⟩ := sn_t h0.2.1
    have h12 : v (12 + p) < 2 := of_decide_eq_true hsh
    have g12 : v (12 + o) < 2 := of_decide_eq_true hsh2
    have hw1 := (hR.1.2.2 p hp).2.1
    have hw2 := (hR.1.2.2 o ho).2.1
    have hrow : GR_ T (b + 1) (am_up (am_up (am_up (am_up v (6 + (p : Int).toNat) (v (6 + (o : Int).toNat))) (6 + (o : Int).toNat) (v (6 + (p : Int).toNat))) (12 + (p : Int).toNat) 0) (12 + (o : Int).toNat) 0) := by
      rw [Int.toNat_natCast, Int.toNat_natCast]
      have u1 : VV_ T (b + 1) (am_up v (6 + p) (v (6 + o))) := VV_.up (hR.1.le (by omega)) (fun q => by omega) (fun q => by omega) (fun r hr q => by omega) (fun r hr q => by omega) (fun r hr q => by omega) (fun r hr q => by omega) (fun r s hr hs q => by omega)
      have u2 : VV_ T (b + 1) (am_up (am_up v (6 + p) (v (6 + o))) (6 + o) (v (6 + p))) := VV_.up u1 (fun q => by omega) (fun q => by omega) (fun r hr q => by omega) (fun r hr q => by omega) (fun r hr q => by omega) (fun r hr q => by omega) (fun r s hr hs q => by omega)
      have u3 : VV_ T (b + 1) (am_up (am_up (am_up v (6 + p) (v (6 + o))) (6 + o) (v (6 + p))) (12 + p) 0) := VV_.up u2 (fun q => by omega) (fun q => by omega) (fun r hr q => by omega) (fun r hr q => by omega) (fun r hr q => by omega) (fun r hr q => by omega) (fun r s hr hs q => by omega)
      have u4 : VV_ T (b + 1) (am_up (am_up (am_up (am_up v (6 + p) (v (6 + o))) (6 + o) (v (6 + p))) (12 + p) 0) (12 + o) 0) := VV_.up u3 (fun q => by omega) (fun q => by omega) (fun r hr q => by omega) (fun r hr q => by omega) (fun r hr q => by omega) (fun r hr q => by omega) (fun r s hr hs q => by omega)
      have d1 := hR.2.2.hd h6.2 hp (z := v (6 + o)) (by omega)
      have d2 := d1.hd h6.2 ho (z := v (6 + p)) (by rw [am_up_ne (by omega)]; omega)
      have d3 := d2.how h6.2 (p := p) (z := 0) (by rw [am_up_ne (by omega), am_up_ne (by omega)]; omega) (by decide) (by omega)
      have d4 := d3.how h6.2 (p := o) (z := 0) (by by_cases q : o = p; rw [q, am_up_same]; decide; rw [am_up_ne (by omega), am_up_ne (by omega), am_up_ne (by omega)]; omega) (by decide) (by omega)
      exact ⟨u4, by rw [am_up_ne (by omega), am_up_ne (by omega), am_up_ne (by omega), am_up_ne (by omega)]; exact hR.2.1, d4⟩
    refine ⟨_, rfl, hk1.2.2.2.2.2.2, m_swap (w := v) (by omega) hT1 hV (h163.trans hv.symm) hR.1 (by omega) hM1 (fun h2 => by rw [h] at h2; cases h2) (fun _ σ2 hf2 hM2 => ?_)⟩
    have hk2 : KF_ s2_ [] [64, 65] σ1 σ2 := kf_fq hf2 (by decide +kernel) (by decide) (by decide)
    exact ⟨rfl, (hG.k2 (hk1.tr hk2) (show b ≤ b + 1 by omega) (G2_.act hV hG.2.1 (by omega) hrow hL1 hH1 hM2 (fq_lo hf2 (by decide)))).cp (Int.le_refl _), (hk1.tr hk2).2.2.2.2.2.2⟩
theorem cc_opens {d : Nat} (hd : 80 ≤ d) {b : Int} (hb0 : b ≤ 60000) {σ : am_S} (hC : CP_ b σ) {x0 : Int} : CC_ d 109 215 [am_I x0] b σ := by
  obtain ⟨T, t, a, e, hs, fb, G, ng, hG⟩ := hC
  have hV := hG.1.2.2.1
  have ht := hG.1.1
  have h6 := hV.nP
  have hS := hV.nS
  have hO := hV.nO
  have hH := hG.2.1.2.2.2.1
  have hM := hG.2.1.2.2.1
  obtain ⟨v, hv⟩ : ∃ v, v = cp_ (σ.1 163) (σ.1 164) 50 := ⟨_, rfl⟩
  obtain ⟨hL, hR⟩ := hG.pl (v := v) (fun j hj => by rw [hv, cp_at hj])
  have hsn : sn_ T v x0 = sn_ T (σ.1 163) x0 := sn_cg hV (fun j hj => by rw [hv, cp_at hj]) x0
  unfold CC_
  refine x_opens (by omega) hL hV hR.1 (by omega) hR.2.2 hH (fun h => ?_) (fun h σ1 hf1 hL1 hH1 => ?_)
  · rw [hsn] at h
    exact ⟨_, rfl, rfl, m_opens (v := v) (w := σ.1 163) (by omega) hG.1.2.1 hV rfl hv hG.2.1.2.1.1 (by omega) hM (fun _ => ⟨rfl, hG.cp (by omega), rfl⟩) (fun h2 => by rw [h] at h2; cases h2)⟩
  · have hk1 : KF_ s2_ [] [64, 65] σ σ1 := kf_hz ht hf1 (by decide +kernel)
    have q1 := hz_hi ht hf1
    have h163 : σ1.1 163 = σ.1 163 := q1 163 (by decide)
    have h164 : σ1.1 164 = σ.1 164 := q1 164 (by decide)
    have hT1 : TM_ T σ1 := (hG.1.kf hk1 (by decide +kernel) (by decide)).2.1
    have hM1 : MH_ a e hs σ1 := hM.cg (by rw [q1 135 (by decide)]) (by rw [q1 135 (by decide)]) (q1 165 (by decide)) h163
    have h0 := h
    obtain ⟨p, rfl, hp, hsh⟩ := sn_t h0
    have h12 : v (12 + p) < 2 := of_decide_eq_true hsh
    have hrow : GR_ T (b + 1) (op_ T v (p : Int).toNat) := by
      rw [Int.toNat_natCast]
      exact ⟨(hR.1.op hV hp).le (by omega), by rw [op_ne (by omega) (by omega)]; exact hR.2.1, hR.2.2.op hV hp h12⟩
    rw [hsn] at h
    refine ⟨_, rfl, hk1.2.2.2.2.2.2, m_opens (v := v) (w := σ.1 163) (by omega) hT1 hV h163 (by rw [h164]; exact hv) hG.2.1.2.1.1 (by omega) hM1 (fun h2 => by rw [h] at h2; cases h2) (fun _ σ2 hf2 hM2 => ?_)⟩
    have hk2 : KF_ s2_ [] [64, 65] σ1 σ2 := kf_fq hf2 (by decide +kernel) (by decide) (by decide)
    exact ⟨rfl, (hG.k2 (hk1.tr hk2) (show b ≤ b + 1 by omega) (G2_.act hV hG.2.1 (by omega) hrow hL1 hH1 hM2 (fq_lo hf2 (by decide)))).cp (Int.le_refl _), (hk1.tr hk2).2.2.2.2.2.2⟩
theorem cc_year {d : Nat} (hd : 80 ≤ d) {b : Int} (hb0 : b ≤ 60000) {σ : am_S} (hC : CP_ b σ) : CC_ d 110 216 [] b σ := by
  obtain ⟨T, t, a, e, hs, fb, G, ng, hG⟩ := hC
  have hV := hG.1.2.2.1
  have ht := hG.1.1
  have h6 := hV.nP
  have hS := hV.nS
  have hO := hV.nO
  have hH := hG.2.1.2.2.2.1
  have hM := hG.2.1.2.2.1
  obtain ⟨v, hv⟩ : ∃ v, v = cp_ (σ.1 163) (σ.1 164) 50 := ⟨_, rfl⟩
  obtain ⟨hL, hR⟩ := hG.pl (v := v) (fun j hj => by rw [hv, cp_at hj])
  have hv49 : v 49 = σ.1 163 49 := by rw [hv, cp_at (by decide)]
  unfold CC_
  refine x_year (by omega) hL hV hR.1 (by omega) hR.2.2 hH hR.2.1 (fun h => ?_) (fun h σ1 hf1 hL1 hD1 hH1 => ?_)
  · rw [hv49] at h
    exact ⟨_, rfl, rfl, m_year (v := v) (w := σ.1 163) (by omega) hG.1.2.1 hV rfl hv hG.2.1.2.1.1 (by omega) hM (fun _ => ⟨rfl, hG.cp (by omega), rfl⟩) (fun h2 => by rw [h] at h2; cases h2)⟩
  · have hk1 : KF_ s2_ [] [64, 65] σ σ1 := kf_hz ht hf1 (by decide +kernel)
    have q1 := hz_hi ht hf1
    have h163 : σ1.1 163 = σ.1 163 := q1 163 (by decide)
    have h164 : σ1.1 164 = σ.1 164 := q1 164 (by decide)
    have hT1 : TM_ T σ1 := (hG.1.kf hk1 (by decide +kernel) (by decide)).2.1
    have hM1 : MH_ a e hs σ1 := hM.cg (by rw [q1 135 (by decide)]) (by rw [q1 135 (by decide)]) (q1 165 (by decide)) h163
    have h0 := of_decide_eq_true h
    have hyr : yr_ T v 49 = v 49 + 1 := by unfold yr_; rw [am_up_same]
    have h99 := hR.2.1
    have hrow : GR_ T (b + 1) (yr_ T v) := ⟨hR.1.yr hV, by rw [hyr]; omega, hD1⟩
    rw [hv49] at h
    refine ⟨_, rfl, hk1.2.2.2.2.2.2, m_year (v := v) (w := σ.1 163) (by omega) hT1 hV h163 (by rw [h164]; exact hv) hG.2.1.2.1.1 (by omega) hM1 (fun h2 => by rw [h] at h2; cases h2) (fun _ σ2 hf2 hM2 => ?_)⟩
    have hk2 : KF_ s2_ [] [64, 65] σ1 σ2 := kf_fq hf2 (by decide +kernel) (by decide) (by decide)
    exact ⟨rfl, (hG.k2 (hk1.tr hk2) (show b ≤ b + 1 by omega) (G2_.act hV hG.2.1 (by omega) hrow hL1 hH1 hM2 (fq_lo hf2 (by decide)))).cp (Int.le_refl _), (hk1.tr hk2).2.2.2.2.2.2⟩
theorem cc_undo {d : Nat} (hd : 80 ≤ d) {b : Int} (hb0 : b ≤ 60000) {σ : am_S} (hC : CP_ b σ) : CC_ d 111 217 [] b σ := by
  obtain ⟨T, t, a, e, hs, fb, G, ng, hG⟩ := hC
  have hV := hG.1.2.2.1
  have ht := hG.1.1
  have hH := hG.2.1.2.2.2.1
  have hM := hG.2.1.2.2.1
  obtain ⟨hL, hR⟩ := hG.pl (v := σ.1 163) (fun _ _ => rfl)
  unfold CC_
  refine x_undo (by omega) hL hV hH (fun h => ?_) (fun h σ1 hf1 hL1 hH1 => ?_)
  · exact ⟨_, rfl, rfl, m_undo (by omega) hM (fun _ => ⟨rfl, hG.cp (by omega), rfl⟩) (fun h2 => absurd h2 (by omega))⟩
  · have hk1 : KF_ s2_ [] [64, 65] σ σ1 := kf_hz ht hf1 (by decide +kernel)
    have q1 := hz_hi ht hf1
    have h163 : σ1.1 163 = σ.1 163 := q1 163 (by decide)
    have hM1 : MH_ a e hs σ1 := hM.cg (by rw [q1 135 (by decide)]) (by rw [q1 135 (by decide)]) (q1 165 (by decide)) h163
    refine ⟨_, rfl, hk1.2.2.2.2.2.2, m_undo (by omega) hM1 (fun h2 => absurd h2 (by omega)) (fun _ σ2 hf2 hM2 => ?_)⟩
    have hk2 : KF_ s2_ [] [64, 65] σ1 σ2 := kf_fq hf2 (by decide +kernel) (by decide) (by decide)
    exact ⟨rfl, (hG.k2 (hk1.tr hk2) (Int.le_refl b) (G2_.step hV hG.2.1 (by omega) hL1 hH1 hM2 (fq_lo hf2 (by decide)))).cp (by omega), (hk1.tr hk2).2.2.2.2.2.2⟩

theorem cc_redo {d : Nat} (hd : 80 ≤ d) {b : Int} (hb0 : b ≤ 60000) {σ : am_S} (hC : CP_ b σ) : CC_ d 112 218 [] b σ := by
  obtain ⟨T, t, a, e, hs, fb, G, ng, hG⟩ := hC
  have hV := hG.1.2.2.1
  have ht := hG.1.1
  have hH := hG.2.1.2.2.2.1
  have hM := hG.2.1.2.2.1
  obtain ⟨hL, hR⟩ := hG.pl (v := σ.1 163) (fun _ _ => rfl)
  unfold CC_
  refine x_redo (by omega) hL hV hH (fun h => ?_) (fun h σ1 hf1 hL1 hH1 => ?_)
  · exact ⟨_, rfl, rfl, m_redo (by omega) hM (fun _ => ⟨rfl, hG.cp (by omega), rfl⟩) (fun h2 => absurd h2 (by omega))⟩
  · have hk1 : KF_ s2_ [] [64, 65] σ σ1 := kf_hz ht hf1 (by decide +kernel)
    have q1 := hz_hi ht hf1
    have h163 : σ1.1 163 = σ.1 163 := q1 163 (by decide)
    have hM1 : MH_ a e hs σ1 := hM.cg (by rw [q1 135 (by decide)]) (by rw [q1 135 (by decide)]) (q1 165 (by decide)) h163
    refine ⟨_, rfl, hk1.2.2.2.2.2.2, m_redo (by omega) hM1 (fun h2 => absurd h2 (by omega)) (fun _ σ2 hf2 hM2 => ?_)⟩
    have hk2 : KF_ s2_ [] [64, 65] σ1 σ2 := kf_fq hf2 (by decide +kernel) (by decide) (by decide)
    exact ⟨rfl, (hG.k2 (hk1.tr hk2) (Int.le_refl b) (G2_.step hV hG.2.1 (by omega) hL1 hH1 hM2 (fq_lo hf2 (by decide)))).cp (by omega), (hk1.tr hk2).2.2.2.2.2.2⟩
