theorem CG_.k7 {T : sp_T} {t : Nat} {b : Int} {a e : Nat} {hs : Nat → sp_V} {fb : Nat} {G : Nat → Nat → Int} {ng : Nat} {σ σ' : am_S} (h : CG_ T t b a e hs fb G ng σ) (hf : KF_ [1, 136] [1] [1] σ σ') (h7 : G7_ σ') : CG_ T t b a e hs fb G ng σ' := by
  obtain ⟨h1, h2, h3, h4, h5, h6, _, h8, h9, h10⟩ := h
  exact ⟨h1.kf hf (by decide +kernel) (by decide), h2.kf hf (by decide +kernel) (by simp) (by simp), h3.kf hf (by decide +kernel) (by simp), h4.kf hf (by decide +kernel) (by simp), h5.kf hf (by simp) (by simp), h6.kf hf (by decide +kernel) (by simp) (by simp), h7, h8.kf hf (by decide +kernel) (by simp) (by simp), h9.kf hf (by decide +kernel) (by simp), h10.kf hf⟩
theorem CG_.k5 {T : sp_T} {t : Nat} {b : Int} {a e : Nat} {hs : Nat → sp_V} {fb : Nat} {G : Nat → Nat → Int} {ng : Nat} {σ σ' : am_S} (h : CG_ T t b a e hs fb G ng σ) (hf : KF_ [] [12] [78] σ σ') (h5 : G5_ σ') : CG_ T t b a e hs fb G ng σ' := by
  obtain ⟨h1, h2, h3, h4, _, h6, h7, h8, h9, h10⟩ := h
  exact ⟨h1.kf hf (by decide +kernel) (by decide), h2.kf hf (by decide +kernel) (by simp) (by simp), h3.kf hf (by decide +kernel) (by simp), h4.kf hf (by decide +kernel) (by simp), h5, h6.kf hf (by decide +kernel) (by simp) (by simp), h7.kf hf (by decide +kernel) (by simp) (by simp), h8.kf hf (by decide +kernel) (by simp) (by simp), h9.kf hf (by decide +kernel) (by simp), h10.kf hf⟩
theorem CG_.k4 {T : sp_T} {t : Nat} {b : Int} {a e : Nat} {hs : Nat → sp_V} {fb : Nat} {G G' : Nat → Nat → Int} {ng ng' : Nat} {σ σ' : am_S} (h : CG_ T t b a e hs fb G ng σ) (hf : KF_ [127, 128, 129, 130, 131, 132, 133, 170, 171, 172, 173, 174, 175] [] [77] σ σ') (h4 : G4_ G' ng' σ') : CG_ T t b a e hs fb G' ng' σ' := by
  obtain ⟨h1, h2, h3, _, h5, h6, h7, h8, h9, h10⟩ := h
  exact ⟨h1.kf hf (by decide +kernel) (by decide), h2.kf hf (by decide +kernel) (by simp) (by simp), h3.kf hf (by decide +kernel) (by simp), h4, h5.kf hf (by simp) (by simp), h6.kf hf (by decide +kernel) (by simp) (by simp), h7.kf hf (by decide +kernel) (by simp) (by simp), h8.kf hf (by decide +kernel) (by simp) (by simp), h9.kf hf (by decide +kernel) (by simp), h10.kf hf⟩
theorem CG_.k3 {T : sp_T} {t : Nat} {b : Int} {a e : Nat} {hs : Nat → sp_V} {fb fb' : Nat} {G : Nat → Nat → Int} {ng : Nat} {σ σ' : am_S} (h : CG_ T t b a e hs fb G ng σ) (hf : KF_ [176, 177, 116, 117, 118] [8] [] σ σ') (h3 : G3_ T b fb' σ') : CG_ T t b a e hs fb' G ng σ' := by
  obtain ⟨h1, h2, _, h4, h5, h6, h7, h8, h9, h10⟩ := h
  exact ⟨h1.kf hf (by decide +kernel) (by decide), h2.kf hf (by decide +kernel) (by simp) (by simp), h3, h4.kf hf (by decide +kernel) (by simp), h5.kf hf (by simp) (by simp), h6.kf hf (by decide +kernel) (by simp) (by simp), h7.kf hf (by decide +kernel) (by simp) (by simp), h8.kf hf (by decide +kernel) (by simp) (by simp), h9.kf hf (by decide +kernel) (by simp), h10.kf hf⟩
def s6_ : List Nat := sc_ ++ [134, 167]
theorem CG_.k6 {T : sp_T} {t : Nat} {b : Int} {a e : Nat} {hs : Nat → sp_V} {fb : Nat} {G : Nat → Nat → Int} {ng : Nat} {σ σ' : am_S} (h : CG_ T t b a e hs fb G ng σ) (hf : KF_ s6_ [14] [68] σ σ') (h6 : G6_ σ') : CG_ T t b a e hs fb G ng σ' := by
  obtain ⟨h1, h2, h3, h4, h5, _, h7, h8, h9, h10⟩ := h
  exact ⟨h1.kf hf (by decide +kernel) (by decide), h2.kf hf (by decide +kernel) (by simp) (by simp), h3.kf hf (by decide +kernel) (by simp), h4.kf hf (by decide +kernel) (by simp), h5.kf hf (by simp) (by simp), h6, h7.kf hf (by decide +kernel) (by simp) (by simp), h8.kf hf (by decide +kernel) (by simp) (by simp), h9.kf hf (by decide +kernel) (by simp), h10.kf hf⟩
def s2_ : List Nat := sc_ ++ hl_ ++ [163, 165]
theorem CG_.k2 {T : sp_T} {t : Nat} {b b' : Int} {a e a' e' : Nat} {hs hs' : Nat → sp_V} {fb : Nat} {G : Nat → Nat → Int} {ng : Nat} {σ σ' : am_S} (h : CG_ T t b a e hs fb G ng σ) (hf : KF_ s2_ [] [64, 65] σ σ') (hb : b ≤ b') (h2 : G2_ T b' a' e' hs' σ') : CG_ T t b' a' e' hs' fb G ng σ' := by
  obtain ⟨h1, _, h3, h4, h5, h6, h7, h8, h9, h10⟩ := h
  exact ⟨h1.kf hf (by decide +kernel) (by decide), h2, (h3.kf hf (by decide +kernel) (by simp)).le hb, h4.kf hf (by decide +kernel) (by simp), h5.kf hf (by simp) (by simp), h6.kf hf (by decide +kernel) (by simp) (by simp), h7.kf hf (by decide +kernel) (by simp) (by simp), h8.kf hf (by decide +kernel) (by simp) (by simp), h9.kf hf (by decide +kernel) (by simp), h10.kf hf⟩
theorem cc_end {d : Nat} (hd : 80 ≤ d) {b : Int} (hb0 : b ≤ 60000) {σ : am_S} (hC : CP_ b σ) {x0 : Int} : CC_ d 93 141 [am_I x0] b σ := by
  obtain ⟨T, t, a, e, hs, fb, G, ng, hG⟩ := hC
  obtain ⟨n, n1, n2, n3, n4⟩ := hG.2.2.2.2.2.2.1
  unfold CC_
  refine x_end (by omega) n3 (fun h => ?_) (fun h => ?_)
  · exact ⟨_, rfl, rfl, m_end (by omega) n4 (fun _ => ⟨rfl, hG.cp (by omega), rfl⟩) (fun h2 => absurd h2 h)⟩
  · refine ⟨_, rfl, rfl, m_end (by omega) (by rw [sI_ne (by decide)]; exact n4) (fun h2 => absurd h h2) (fun _ => ⟨rfl, ?_, rfl⟩)⟩
    have hk1 : KF_ [1, 136] [1] [1] σ (am_sI σ 0 (am_up (σ.1 0) 1 x0)) := kf_s0 (by simp)
    have hk2 : KF_ [1, 136] [1] [1] (am_sI σ 0 (am_up (σ.1 0) 1 x0)) (am_sI (am_sI σ 0 (am_up (σ.1 0) 1 x0)) 135 (am_up ((am_sI σ 0 (am_up (σ.1 0) 1 x0)).1 135) 1 x0)) := kf_s5 (by simp)
    refine (hG.k7 (hk1.tr hk2) ⟨x0.toNat, by omega, ?_, ?_, ?_⟩).cp (by omega)
    · rw [sI_ne (by decide), sI_ne (by decide), sI_ne (by decide), sI_ne (by decide)]
      exact fun k hk => n2 k (by omega)
    · rw [sI_ne (by decide), sI_at, am_up_same]
      omega
    · rw [sI_at, am_up_same]
      omega
theorem cc_feed {d : Nat} (hd : 80 ≤ d) {b : Int} (hb0 : b ≤ 60000) {σ : am_S} (hC : CP_ b σ) {x0 x1 x2 x3 x4 : Int} : CC_ d 91 139 [am_I x0, am_I x1, am_I x2, am_I x3, am_I x4] b σ := by
  obtain ⟨T, t, a, e, hs, fb, G, ng, hG⟩ := hC
  obtain ⟨n, n1, n2, n3, n4⟩ := hG.2.2.2.2.2.2.1
  unfold CC_
  refine x_feed (by omega) n3 n1 (fun h => ?_) (fun h => ?_)
  · exact ⟨_, rfl, rfl, m_feed (by omega) n4 n1 (fun _ => ⟨rfl, hG.cp (by omega), rfl⟩) (fun h2 => absurd h2 (by omega))⟩
  · refine ⟨_, rfl, rfl, m_feed (by omega) (by rw [cf5_b (by decide) (by decide)]; exact n4) n1 (fun h2 => absurd h2 (by omega)) (fun _ => ⟨rfl, ?_, rfl⟩)⟩
    refine (hG.k7 (σ' := fd_ (cf5_ σ n x0 x1 x2 x3 x4) n x0 x1 x2 x3 x4) ⟨fun q hq h0 h5 => ?_, fun k hk => ?_, fun k hk => ?_, rfl, rfl, rfl, rfl⟩ ⟨n + 20, by omega, ?_, ?_, ?_⟩).cp (by omega)
    · have h2 : q ≠ 1 ∧ q ≠ 136 := by simpa using hq
      rw [fd_b h5 h2.2, cf5_b h0 h2.1]
    · rw [fd_b (by decide) (by decide), cf5_0 (by simpa using hk)]
    · rw [fd_0 (by simpa using hk), cf5_b (by decide) (by decide)]
    · rw [fd_b (by decide) (by decide)]
      refine TP_.feed (σ := σ) (τ := cf5_ σ n x0 x1 x2 x3 x4) ?_ x0 x1 x2 x3 x4
      rw [cf5_b (by decide) (by decide)]
      exact n2
    · rw [fd_b (by decide) (by decide)]
      unfold cf5_
      rw [co_t]
    · unfold fd_
      rw [fo_t]
theorem cc_later {d : Nat} (hd : 80 ≤ d) {b : Int} (hb0 : b ≤ 60000) {σ : am_S} (hC : CP_ b σ) {x0 : Int} : CC_ d 132 251 [am_I x0] b σ := by
  obtain ⟨T, t, a, e, hs, fb, G, ng, hG⟩ := hC
  obtain ⟨n, n1, n2, n3⟩ := hG.2.2.2.2.1
  unfold CC_
  refine x_later (by omega) n2 (by omega) (fun h => ?_) (fun h => ?_)
  · exact ⟨_, rfl, rfl, m_later (by omega) n3 (by omega) (fun _ => ⟨rfl, hG.cp (by omega), rfl⟩) (fun h2 => by rw [h] at h2; cases h2)⟩
  · refine ⟨_, rfl, rfl, m_later (by omega) (by rw [sI_ne (by decide)]; exact n3) (by omega) (fun h2 => by rw [h] at h2; cases h2) (fun _ => ⟨rfl, ?_, rfl⟩)⟩
    have hx := of_decide_eq_true h
    have hk1 : KF_ [] [12] [78] σ (am_sI σ 0 (am_up (σ.1 0) 12 ((n : Int) + x0))) := kf_s0 (by simp)
    refine (hG.k5 (hk1.tr (kf_s5 (k := 78) (z := (n : Int) + x0) (by simp))) ⟨(((n : Int) + x0)).toNat, by omega, ?_, ?_⟩).cp (by omega)
    · rw [sI_ne (by decide), sI_at, am_up_same]
      omega
    · rw [sI_at, am_up_same]
      omega
theorem cc_untell {d : Nat} (hd : 80 ≤ d) {b : Int} (hb0 : b ≤ 60000) {σ : am_S} (hC : CP_ b σ) {x0 : Int} : CC_ d 131 250 [am_I x0] b σ := by
  obtain ⟨T, t, a, e, hs, fb, G, ng, hG⟩ := hC
  obtain ⟨n, n1, n2, n3⟩ := hG.2.2.2.2.1
  obtain ⟨hS, hX⟩ := hG.2.2.2.1
  unfold CC_
  refine x_untell (by omega) hX (t := (n : Int)) (by omega) n2 (fun h => ?_) (fun h σ1 hf1 hX1 => ?_)
  · exact ⟨_, rfl, rfl, m_untell (by omega) hS n3 (fun _ => ⟨rfl, hG.cp (by omega), rfl⟩) (fun h2 => by rw [h] at h2; cases h2)⟩
  · have hk1 : KF_ [127, 128, 129, 130, 131, 132, 133, 170, 171, 172, 173, 174, 175] [] [77] σ σ1 := kf_hs hf1 (by intro q h1 h2; simp; omega)
    obtain ⟨a1, a2, ⟨b1, b2, b3, b4, b5, b6⟩, a4⟩ := hS
    have q1 : ∀ q, 134 ≤ q → σ1.1 q = σ.1 q := fun q hq => hf1.1 q (by omega)
    refine ⟨_, rfl, hk1.2.2.2.2.2.2, m_untell (G := G) (n := ng) (by omega) ⟨by rw [q1 135 (by decide)]; exact a1, a2, ⟨by rw [q1 170 (by decide)]; exact b1, by rw [q1 171 (by decide)]; exact b2, by rw [q1 172 (by decide)]; exact b3, by rw [q1 173 (by decide)]; exact b4, by rw [q1 174 (by decide)]; exact b5, by rw [q1 175 (by decide)]; exact b6⟩, a4⟩ (by rw [q1 135 (by decide)]; exact n3) (fun h2 => by rw [h] at h2; cases h2) (fun _ => ⟨rfl, ?_, ?_⟩)⟩
    · have hk2 : KF_ [127, 128, 129, 130, 131, 132, 133, 170, 171, 172, 173, 174, 175] [] [77] σ1 (am_sI σ1 174 (am_up (G 4) x0.toNat (n : Int))) := kf_sI (by simp) (by decide) (by decide)
      refine (hG.k4 (G' := fun k => if k = 4 then am_up (G 4) x0.toNat (n : Int) else G k) (ng' := ng) (hk1.tr hk2) ⟨⟨?_, a2, ⟨?_, ?_, ?_, ?_, ?_, ?_⟩, fun j hj => a4 j hj⟩, hX1.cg (fun q h1 h2 => sI_ne (by omega))⟩).cp (by omega)
      · rw [sI_ne (by decide), q1 135 (by decide)]; exact a1
      · rw [sI_ne (by decide), q1 170 (by decide)]; exact b1
      · rw [sI_ne (by decide), q1 171 (by decide)]; exact b2
      · rw [sI_ne (by decide), q1 172 (by decide)]; exact b3
      · rw [sI_ne (by decide), q1 173 (by decide)]; exact b4
      · rw [sI_at]; rfl
      · rw [sI_ne (by decide), q1 175 (by decide)]; exact b6
    · exact hk1.2.2.2.2.2.2
theorem cc_sign {d : Nat} (hd : 80 ≤ d) {b : Int} (hb0 : b ≤ 60000) {σ : am_S} (hC : CP_ b σ) {x0 x1 x2 x3 : Int} (he : x3 = 0 ∨ x3 = 1) : CC_ d 130 249 [am_I x0, am_I x1, am_I x2, am_I x3] b σ := by
  obtain ⟨T, t, a, e, hs, fb, G, ng, hG⟩ := hC
  have hV := hG.1.2.2.1
  obtain ⟨n, n1, n2, n3⟩ := hG.2.2.2.2.1
  obtain ⟨hS, hX⟩ := hG.2.2.2.1
  obtain ⟨hL, hR⟩ := hG.pl (v := σ.1 163) (fun _ _ => rfl)
  unfold CC_
  refine x_sign (by omega) hL hV hX n2 he (fun h => ?_) (fun h σ1 hf1 hX1 => ?_)
  · exact ⟨_, rfl, rfl, m_sign (by omega) hG.1.2.1 hV hS n3 he (fun _ => ⟨rfl, hG.cp (by omega), rfl⟩) (fun h2 => by rw [h] at h2; cases h2)⟩
  · have hk1 : KF_ [127, 128, 129, 130, 131, 132, 133, 170, 171, 172, 173, 174, 175] [] [77] σ σ1 := kf_hs hf1 (by intro q h1 h2; simp; omega)
    obtain ⟨a1, a2, ⟨b1, b2, b3, b4, b5, b6⟩, a4⟩ := hS
    have q1 : ∀ q, 134 ≤ q → σ1.1 q = σ.1 q := fun q hq => hf1.1 q (by omega)
    have hT1 : TM_ T σ1 := (hG.1.kf hk1 (by decide +kernel) (by decide)).2.1
    refine ⟨_, rfl, hk1.2.2.2.2.2.2, m_sign (G := G) (n := ng) (t := (n : Int)) (by omega) hT1 hV ⟨by rw [q1 135 (by decide)]; exact a1, a2, ⟨by rw [q1 170 (by decide)]; exact b1, by rw [q1 171 (by decide)]; exact b2, by rw [q1 172 (by decide)]; exact b3, by rw [q1 173 (by decide)]; exact b4, by rw [q1 174 (by decide)]; exact b5, by rw [q1 175 (by decide)]; exact b6⟩, a4⟩ (by rw [q1 135 (by decide)]; exact n3) he (fun h2 => by rw [h] at h2; cases h2) (fun _ => ⟨rfl, ?_, hk1.2.2.2.2.2.2⟩)⟩
    have hcond : (0 ≤ x1 ∧ x1 ≤ 2) ∧ ¬ ng = 30 := by
      rw [Bool.and_eq_true, Bool.and_eq_true, Bool.and_eq_true] at h
      exact ⟨of_decide_eq_true h.2.1, of_decide_eq_true h.2.2.2⟩
    have e70 : σ1.1 170 = G 0 := by rw [q1 170 (by decide)]; exact b1
    have e71 : σ1.1 171 = G 1 := by rw [q1 171 (by decide)]; exact b2
    have e72 : σ1.1 172 = G 2 := by rw [q1 172 (by decide)]; exact b3
    have e73 : σ1.1 173 = G 3 := by rw [q1 173 (by decide)]; exact b4
    have e74 : σ1.1 174 = G 4 := by rw [q1 174 (by decide)]; exact b5
    have e75 : σ1.1 175 = G 5 := by rw [q1 175 (by decide)]; exact b6
    have hbb : ∀ q, q ∉ [170, 171, 172, 173, 174, 175, 135] → (sg_ σ1 ng x0 x1 x2 x3 (n : Int)).1 q = σ1.1 q := fun q hq => by
      simp at hq
      unfold sg_
      rw [sI_ne (by omega), sI_ne (by omega), sI_ne (by omega), sI_ne (by omega), sI_ne (by omega), sI_ne (by omega), sI_ne (by omega)]
    have hb5 : ∀ k, k ≠ 77 → (sg_ σ1 ng x0 x1 x2 x3 (n : Int)).1 135 k = σ1.1 135 k := fun k hk => by
      unfold sg_
      rw [sI_at, am_up_ne hk]
    have hk2 : KF_ [127, 128, 129, 130, 131, 132, 133, 170, 171, 172, 173, 174, 175] [] [77] σ1 (sg_ σ1 ng x0 x1 x2 x3 (n : Int)) := ⟨fun q hq h0 h5 => hbb q (by simp at hq ⊢; omega), fun k _ => by rw [hbb 0 (by simp)], fun k hk => hb5 k (by simpa using hk), rfl, rfl, rfl, rfl⟩
    refine (hG.k4 (G' := gu_ G ng x0 x1 x2 x3 (n : Int)) (ng' := ng + 1) (hk1.tr hk2) ⟨⟨?_, by omega, ⟨?_, ?_, ?_, ?_, ?_, ?_⟩, fun j hj => ?_⟩, hX1.cg (fun q h1 h2 => hbb q (by simp; omega))⟩).cp (by omega)
    · unfold sg_; rw [sI_at, am_up_same]
    · show am_up (σ1.1 170) ng x0 = _; rw [e70]; rfl
    · show am_up (σ1.1 171) ng x1 = _; rw [e71]; rfl
    · show am_up (σ1.1 172) ng x2 = _; rw [e72]; rfl
    · show am_up (σ1.1 173) ng (n : Int) = _; rw [e73]; rfl
    · show am_up (σ1.1 174) ng (-1) = _; rw [e74]; rfl
    · show am_up (σ1.1 175) ng x3 = _; rw [e75]; rfl
    · show (0 ≤ am_up (G 1) ng x1 j ∧ am_up (G 1) ng x1 j ≤ 2) ∧ (am_up (G 5) ng x3 j = 0 ∨ am_up (G 5) ng x3 j = 1)
      by_cases q : j = ng
      · rw [q, am_up_same, am_up_same]
        exact ⟨hcond.1, he⟩
      · rw [am_up_ne q, am_up_ne q]
        exact a4 j (by omega)
