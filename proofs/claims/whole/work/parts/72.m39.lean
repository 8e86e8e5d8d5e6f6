def RJ_ (tp : Nat → Int) (n : Nat) (r : sp_R) (σ : am_S) (Q : Option am_V → am_S → Prop) : Prop := (∀ e, r = Sum.inl e → ∀ σ', fp_ [] pf_ [] σ σ' → 0 < e.1 → FT_ tp n e σ' → Q (some (am_I 0)) σ') ∧ ∀ a p', r = Sum.inr (a, p') → ∀ σ', fp_ [] pf_ [] σ σ' → σ'.1 135 2 = 0 → PS_ tp n p' σ' → Q (some (am_I a)) σ'

theorem r_oldName0 {d : Nat} (hd : 3 ≤ d) {σ : am_S} {tp : Nat → Int} {n p : Nat} (hP : PS_ tp n p σ) (h02 : σ.1 135 2 = 0) {g : Nat → Int} (hg : σ.2.1 137 = g) {b m : Nat} (hbm : b + m ≤ 21) {Q : Option am_V → am_S → Prop} (hQ : RJ_ tp n (old_ tp n g b m p) σ Q) : am_Ev d 157 [am_R 135, am_I ((b : Nat) : Int), am_I ((m : Nat) : Int)] σ Q := by
  obtain ⟨d, rfl⟩ : ∃ e, d = e + 1 := ⟨d - 1, by omega⟩
  have k6 := hP.1.2.1
  have k9 := hP.1.2.2.2.2
  have hfb := fi_bd g (tkw_ tp n p) b m
  refine ev_in (m := 157) (c := k_X9_oldName) (L := [some (am_R 135), some (am_I ((b : Nat) : Int)), some (am_I ((m : Nat) : Int))]) rfl rfl rfl rfl rfl rfl ?_
  refine ax_load (q := 1) rfl rfl rfl rfl rfl ?_
  refine ax_getf (q := 4) (v := am_I 0) rfl rfl (am_fg rfl h02) ?_
  refine ax_if_le (q := 7) (x := 9) rfl rfl (fun h4 => ?_) (fun h => absurd h (by omega))
  refine ax_load (q := 10) rfl rfl rfl rfl rfl ?_
  refine ax_callv (q := 13) rfl rfl rfl rfl rfl rfl ?_
  refine m_isName (by omega) ?_
  rw [k6, k9]
  refine ax_if_ne (q := 16) (x := 24) rfl rfl (fun h13 => ?_) (fun h13 => ?_)
  · have hb13 := it_n0 h13
    refine ax_load (q := 25) rfl rfl rfl rfl rfl ?_
    refine ax_load (q := 26) rfl rfl rfl rfl rfl ?_
    refine ax_load (q := 27) rfl rfl rfl rfl rfl ?_
    refine ax_callv (q := 30) rfl rfl rfl rfl rfl rfl ?_
    refine m_find (by omega) hg k9 hbm ?_
    refine ax_if_ge (q := 33) (x := 38) rfl rfl (fun h30 => ?_) (fun h30 => ?_)
    · refine ax_load (q := 39) rfl rfl rfl rfl rfl ?_
      refine ax_getf (q := 42) (v := am_I 0) rfl rfl (am_fg rfl h02) ?_
      refine ax_if_le (q := 45) (x := 49) rfl rfl (fun h42 => ?_) (fun h => absurd h (by omega))
      refine ax_load (q := 50) rfl rfl rfl rfl rfl ?_
      refine ax_load (q := 51) rfl rfl rfl rfl rfl ?_
      refine ax_load (q := 52) rfl rfl rfl rfl rfl ?_
      refine ax_callv (q := 55) rfl rfl rfl rfl rfl rfl ?_
      refine m_find (by omega) hg k9 hbm ?_
      refine ax_ret (r := some (am_I (fi_ g (tkw_ tp n p) b m))) rfl rfl ?_
      have hnm : tks_ tp n p = 1 ∧ own_ (tkw_ tp n p) = false := by simpa using hb13
      exact hQ.2 _ p (by unfold old_; rw [if_neg (fun q => q hnm), if_neg (by omega)]) σ (fp_rf _ _ _ _) h02 hP
    · refine ax_load (q := 34) rfl rfl rfl rfl rfl ?_
      refine ax_const (q := 35) (v := am_I 5) rfl rfl rfl ?_
      refine ax_callv (q := 38) rfl rfl rfl rfl rfl rfl ?_
      refine m_wrong (by omega) ?_
      rw [if_neg (by rw [h02]; decide)]
      refine ax_load (q := 39) rfl rfl rfl rfl rfl ?_
      refine ax_getf (q := 42) (v := am_I ((wr_ σ 5).1 135 2)) rfl rfl (rfl) ?_
      refine ax_if_le (q := 45) (x := 49) rfl rfl (fun h => absurd h (by have := wr_2 σ (z := 5) (by decide); omega)) (fun h42 => ?_)
      refine ax_const (q := 46) (v := am_I 0) rfl rfl rfl ?_
      refine ax_goto (x := 55) rfl ?_
      refine ax_ret (r := some (am_I 0)) rfl rfl ?_
      have hnm : tks_ tp n p = 1 ∧ own_ (tkw_ tp n p) = false := by simpa using hb13
      exact hQ.1 (5, p) (by unfold old_; rw [if_neg (fun q => q hnm), if_pos (by omega)]) _ (fp_wr (fp_rf _ _ _ _) (by decide) (by decide)) (by show (0 : Int) < 5; decide) (FT_wr hP 5)
  · have hb13 := it_0 h13
    refine ax_load (q := 17) rfl rfl rfl rfl rfl ?_
    refine ax_const (q := 18) (v := am_I 2) rfl rfl rfl ?_
    refine ax_callv (q := 21) rfl rfl rfl rfl rfl rfl ?_
    refine m_wrong (by omega) ?_
    rw [if_neg (by rw [h02]; decide)]
    refine ax_goto (x := 38) rfl ?_
    refine ax_load (q := 39) rfl rfl rfl rfl rfl ?_
    refine ax_getf (q := 42) (v := am_I ((wr_ σ 2).1 135 2)) rfl rfl (rfl) ?_
    refine ax_if_le (q := 45) (x := 49) rfl rfl (fun h => absurd h (by have := wr_2 σ (z := 2) (by decide); omega)) (fun h42 => ?_)
    refine ax_const (q := 46) (v := am_I 0) rfl rfl rfl ?_
    refine ax_goto (x := 55) rfl ?_
    refine ax_ret (r := some (am_I 0)) rfl rfl ?_
    exact hQ.1 (2, p) (if_pos (fun q => by rw [decide_eq_true q.1, q.2] at hb13; cases hb13)) _ (fp_wr (fp_rf _ _ _ _) (by decide) (by decide)) (by show (0 : Int) < 2; decide) (FT_wr hP 2)

/-- the levels that a line of a PERSON tells -/
def lev_ (tp : Nat → Int) (n : Nat) (nS k : Nat) : Nat → sp_T → Nat → Nat → sp_L
  | 0, _, p, _ => Sum.inl (2, p)
  | m + 1, D, p, h => if tks_ tp n p = 59 then Sum.inr (D, p) else sb_ (old_ tp n (D 137) 0 nS p) fun a => if h.testBit a.1.toNat then Sum.inl (3, p) else sb_ (num_ tp n 0 20 (nxp_ tp n p)) fun b => lev_ tp n nS k m (du_ D 161 (4 * k + a.1.toNat) b.1) b.2 (h ||| 2 ^ a.1.toNat)
def hb_ (h : Nat) : Nat := (if h.testBit 0 then 1 else 0) + (if h.testBit 1 then 1 else 0) + (if h.testBit 2 then 1 else 0) + (if h.testBit 3 then 1 else 0)
theorem hb_up : ∀ h, h < 16 → ∀ a, a < 4 → h.testBit a = false → (h ||| 2 ^ a) < 16 ∧ hb_ (h ||| 2 ^ a) = hb_ h + 1 := by decide
theorem hb_le (h : Nat) : hb_ h ≤ 4 := by
  unfold hb_
  (repeat' split) <;> omega
/-- what a line of a PERSON tells -/
def per_ (tp : Nat → Int) (n : Nat) (D : sp_T) (k nS nR p : Nat) : sp_L := sb_ (nwn_ tp n (D 137) 15 k p) fun p1 => sb_ (wan_ tp n 28518 p1) fun p2 => sb_ (old_ tp n (am_up (D 137) (15 + k) (tkw_ tp n (nxp_ tp n p))) 12 nR p2) fun a => sb_ (tol_ tp n 6383461 0 39 (nxp_ tp n p2)) fun b => sb_ (lev_ tp n nS k 5 (du_ (du_ (du_ (du_ (du_ (du_ (du_ D 137 (15 + k) (tkw_ tp n (nxp_ tp n p))) 159 k a.1) 160 k b.1) 161 ((4 * k) + 0) 0) 161 ((4 * k) + 1) 0) 161 ((4 * k) + 2) 0) 161 ((4 * k) + 3) 0) b.2 0) fun c => Sum.inr (du_ c.1 135 46 ((k + 1 : Nat) : Int), c.2)

theorem l_readPerson {d : Nat} (hd : 5 ≤ d) {tp : Nat → Int} {n nS k : Nat} (hk6 : k < 6) (hS4 : nS ≤ 4) {Q : Option am_V → am_S → Prop} {σ0 : am_S} : ∀ (m : Nat) (D : sp_T) (p h : Nat) (x3 : Option am_V) (σ : am_S), PS_ tp n p σ → σ.1 135 2 = 0 → RS_ D σ → D 135 43 = (nS : Int) → RF_ σ0 σ → h < 16 → hb_ h + m = 5 →
    (hN : ∀ e, lev_ tp n nS k m D p h = Sum.inl e → ∀ h' x σ', RF_ σ0 σ' → 0 < e.1 → FT_ tp n e σ' → aW d 4 k_X9_readPerson Q 175 [some (am_R 135), some (am_I (k : Int)), some (am_I h'), x] [] σ') →
    (hY : ∀ D' p', lev_ tp n nS k m D p h = Sum.inr (D', p') → ∀ h' x σ', RF_ σ0 σ' → σ'.1 135 2 = 0 → PS_ tp n p' σ' → RS_ D' σ' → aW d 4 k_X9_readPerson Q 175 [some (am_R 135), some (am_I (k : Int)), some (am_I h'), x] [] σ') →
    aW d 4 k_X9_readPerson Q 91 [some (am_R 135), some (am_I (k : Int)), some (am_I (h : Int)), x3] [] σ := by
  intro m
  induction m with
  | zero =>
    intro D p h x3 σ hP h02 hR hS hf hh16 hhb hN hY
    exact absurd (hb_le h) (by omega)
  | succ m ih =>
    intro D p h x3 σ hP h02 hR hS hf hh16 hhb hN hY
    have hg := hR.2.2
    have k6 := hP.1.2.1
    have hh2 : h < 2 ^ 31 := by omega
    refine ax_load (q := 92) rfl rfl rfl rfl rfl ?_
    refine ax_getf (q := 95) (v := am_I 0) rfl rfl (am_fg rfl h02) ?_
    refine ax_if_ne (q := 98) (x := 175) rfl rfl (fun h => absurd h (by omega)) (fun h95 => ?_)
    refine ax_load (q := 99) rfl rfl rfl rfl rfl ?_
    refine ax_getf (q := 102) (v := am_I (tks_ tp n p)) rfl rfl (am_fg rfl k6) ?_
    refine ax_const (q := 104) (v := am_I 59) rfl rfl rfl ?_
    refine ax_icmp_eq (q := 107) (x := 175) rfl rfl (fun h104 => ?_) (fun h104 => ?_)
    · exact hY D p (by rw [lev_]; exact if_pos h104) _ _ _ hf h02 hP hR
    · refine ax_load (q := 108) rfl rfl rfl rfl rfl ?_
      refine ax_const (q := 109) (v := am_I 0) rfl rfl rfl ?_
      refine ax_load (q := 110) rfl rfl rfl rfl rfl ?_
      refine ax_getf (q := 113) (v := am_I ((nS : Nat) : Int)) rfl rfl (am_fg rfl ((hR.2.1 43 (by decide)).trans hS)) ?_
      refine ax_callv (q := 116) rfl rfl rfl rfl rfl rfl ?_
      refine r_oldName0 (b := 0) (m := nS) (by omega) hP h02 hg (by omega) ⟨fun e he x1 hk1 h0 hF => ?_, fun A p1 e1 σ1 hk1 h21 hP1 => ?_⟩
      · have hbad := FT_pos hF h0
        have hfx : RF_ σ0 x1 := RF_.tr hf hk1 (by decide) (by decide) (by decide)
        have hres : lev_ tp n nS k (m + 1) D p h = Sum.inl e := by simp only [lev_, sb_, if_neg h104, he]
        refine ax_store (q := 117) (L' := [some (am_R 135), some (am_I ((k : Nat) : Int)), some (am_I ((h : Nat) : Int)), some (am_I 0)]) rfl rfl rfl rfl rfl rfl ?_
        refine ax_load (q := 118) rfl rfl rfl rfl rfl ?_
        refine ax_getf (q := 121) (v := am_I ((x1).1 135 2)) rfl rfl (rfl) ?_
        refine ax_if_ne (q := 124) (x := 138) rfl rfl (fun h121 => ?_) (fun h => absurd h (ne_p hbad))
        refine ax_load (q := 139) rfl rfl rfl rfl rfl ?_
        refine ax_getf (q := 142) (v := am_I ((x1).1 135 2)) rfl rfl (rfl) ?_
        refine ax_if_ne (q := 145) (x := 149) rfl rfl (fun h142 => ?_) (fun h => absurd h (ne_p hbad))
        refine ax_load (q := 150) rfl rfl rfl rfl rfl ?_
        refine ax_const (q := 151) (v := am_I 1) rfl rfl rfl ?_
        refine ax_load (q := 152) rfl rfl rfl rfl rfl ?_
        refine ax_ishl (q := 153) (z := 1) rfl rfl (by decide) ?_
        refine ax_ior (q := 154) (z := am_or (h : Int) 1) rfl rfl (rfl) ?_
        refine ax_store (q := 155) (L' := [some (am_R 135), some (am_I ((k : Nat) : Int)), some (am_I (am_or (h : Int) 1)), some (am_I 0)]) rfl rfl rfl rfl rfl rfl ?_
        refine ax_load (q := 156) rfl rfl rfl rfl rfl ?_
        refine ax_getf (q := 159) (v := am_R 161) rfl rfl (rfl) ?_
        refine ax_const (q := 160) (v := am_I 4) rfl rfl rfl ?_
        refine ax_load (q := 161) rfl rfl rfl rfl rfl ?_
        refine ax_imul (q := 162) (z := ((4 * k : Nat) : Int)) rfl rfl (am_we (by omega) (by omega) (by omega)) ?_
        refine ax_load (q := 163) rfl rfl rfl rfl rfl ?_
        refine ax_iadd (q := 164) (z := (((4 * k) + 0 : Nat) : Int)) rfl rfl (am_we (by omega) (by omega) (by omega)) ?_
        refine ax_load (q := 165) rfl rfl rfl rfl rfl ?_
        refine ax_const (q := 166) (v := am_I 0) rfl rfl rfl ?_
        refine ax_const (q := 168) (v := am_I 20) rfl rfl rfl ?_
        refine ax_callv (q := 171) rfl rfl rfl rfl rfl rfl ?_
        refine z_toldNumber (by omega) hbad ?_
        refine bx_iast (q := 172) (k := (4 * k) + 0) rfl rfl (rfl) (by omega) (by omega) ?_
        refine ax_goto (x := 91) rfl ?_
        refine ax_load (q := 92) rfl rfl rfl rfl rfl ?_
        refine ax_getf (q := 95) (v := am_I (((am_sI x1 161 (am_up (x1.1 161) ((4 * k) + 0) 0))).1 135 2)) rfl rfl (rfl) ?_
        refine ax_if_ne (q := 98) (x := 175) rfl rfl (fun h95 => ?_) (fun h => absurd h (ne_p (b_sI (by decide) hbad)))
        exact hN _ hres _ _ _ (fp_sI hfx (by decide) (by decide)) h0 (F_sI (by decide) hF)
      · obtain ⟨hp_, A, rfl, hA⟩ := old_in e1
        have hp_ := hp_.symm
        subst hp_
        have hA4 : A < 4 := by omega
        have hf1 : RF_ σ0 σ1 := RF_.tr hf hk1 (by decide) (by decide) (by decide)
        have hR1 : RS_ D σ1 := RS_.tok hR hk1 (by decide)
        refine ax_store (q := 117) (L' := [some (am_R 135), some (am_I ((k : Nat) : Int)), some (am_I ((h : Nat) : Int)), some (am_I ((A : Nat) : Int))]) rfl rfl rfl rfl rfl rfl ?_
        refine ax_load (q := 118) rfl rfl rfl rfl rfl ?_
        refine ax_getf (q := 121) (v := am_I 0) rfl rfl (am_fg rfl h21) ?_
        refine ax_if_ne (q := 124) (x := 138) rfl rfl (fun h => absurd h (by omega)) (fun h121 => ?_)
        refine ax_load (q := 125) rfl rfl rfl rfl rfl ?_
        refine ax_load (q := 126) rfl rfl rfl rfl rfl ?_
        refine ax_ishr (q := 127) (z := am_shr (h : Int) ((A : Nat) : Int)) rfl rfl (rfl) ?_
        refine ax_const (q := 128) (v := am_I 1) rfl rfl rfl ?_
        refine ax_iand (q := 129) (z := if h.testBit A then 1 else 0) rfl rfl (am_bit (by omega) (by omega)) ?_
        refine ax_const (q := 130) (v := am_I 1) rfl rfl rfl ?_
        refine ax_icmp_ne (q := 133) (x := 138) rfl rfl (fun h130 => ?_) (fun h130 => ?_)
        · have hbt := it_n1 h130
          have hbf : ¬ h.testBit A = true := by rw [hbt]; decide
          refine ax_load (q := 139) rfl rfl rfl rfl rfl ?_
          refine ax_getf (q := 142) (v := am_I 0) rfl rfl (am_fg rfl h21) ?_
          refine ax_if_ne (q := 145) (x := 149) rfl rfl (fun h => absurd h (by omega)) (fun h142 => ?_)
          refine ax_load (q := 146) rfl rfl rfl rfl rfl ?_
          refine ax_callv (q := 149) rfl rfl rfl rfl rfl rfl ?_
          refine m_tokenN (by omega) hP1 (fun σ2 hk2 hP2 => ?_)
          have hf2 : RF_ σ0 σ2 := RF_.tr hf1 hk2 (by decide) (by decide) (by decide)
          have hR2 : RS_ D σ2 := RS_.tok hR1 hk2 (by decide)
          have h22 : σ2.1 135 2 = 0 := (hk2.2.1 2 (by decide)).trans h21
          refine ax_load (q := 150) rfl rfl rfl rfl rfl ?_
          refine ax_const (q := 151) (v := am_I 1) rfl rfl rfl ?_
          refine ax_load (q := 152) rfl rfl rfl rfl rfl ?_
          refine ax_ishl (q := 153) (z := ((2 ^ A : Nat) : Int)) rfl rfl (am_shl1 A (by omega)) ?_
          refine ax_ior (q := 154) (z := ((h ||| 2 ^ A : Nat) : Int)) rfl rfl (am_or_nat (by omega) (Nat.pow_lt_pow_right (by decide) (by omega))) ?_
          refine ax_store (q := 155) (L' := [some (am_R 135), some (am_I ((k : Nat) : Int)), some (am_I ((h ||| 2 ^ A : Nat) : Int)), some (am_I ((A : Nat) : Int))]) rfl rfl rfl rfl rfl rfl ?_
          refine ax_load (q := 156) rfl rfl rfl rfl rfl ?_
          refine ax_getf (q := 159) (v := am_R 161) rfl rfl (rfl) ?_
          refine ax_const (q := 160) (v := am_I 4) rfl rfl rfl ?_
          refine ax_load (q := 161) rfl rfl rfl rfl rfl ?_
          refine ax_imul (q := 162) (z := ((4 * k : Nat) : Int)) rfl rfl (am_we (by omega) (by omega) (by omega)) ?_
          refine ax_load (q := 163) rfl rfl rfl rfl rfl ?_
          refine ax_iadd (q := 164) (z := (((4 * k) + A : Nat) : Int)) rfl rfl (am_we (by omega) (by omega) (by omega)) ?_
          refine ax_load (q := 165) rfl rfl rfl rfl rfl ?_
          refine ax_const (q := 166) (v := am_I 0) rfl rfl rfl ?_
          refine ax_const (q := 168) (v := am_I 20) rfl rfl rfl ?_
          refine ax_callv (q := 171) rfl rfl rfl rfl rfl rfl ?_
          refine r_toldNumber (by omega) hP2 h22 ⟨fun e he x3s v hk3 h0 hF => ?_, fun v3 p3 e3 σ3 hk3 h23 hP3 => ?_⟩
          · have hbad := FT_pos hF h0
            have hfx : RF_ σ0 x3s := RF_.tr hf2 hk3 (by decide) (by decide) (by decide)
            have hres : lev_ tp n nS k (m + 1) D p h = Sum.inl e := by simp only [lev_, sb_, if_neg h104, e1]; refine (if_neg hbf).trans ?_; rw [he]
            refine bx_iast (q := 172) (k := (4 * k) + A) rfl rfl (rfl) (by omega) (by omega) ?_
            refine ax_goto (x := 91) rfl ?_
            refine ax_load (q := 92) rfl rfl rfl rfl rfl ?_
            refine ax_getf (q := 95) (v := am_I (((am_sI x3s 161 (am_up (x3s.1 161) ((4 * k) + A) v))).1 135 2)) rfl rfl (rfl) ?_
            refine ax_if_ne (q := 98) (x := 175) rfl rfl (fun h95 => ?_) (fun h => absurd h (ne_p (b_sI (by decide) hbad)))
            exact hN _ hres _ _ _ (fp_sI hfx (by decide) (by decide)) h0 (F_sI (by decide) hF)
          · have hf3 : RF_ σ0 σ3 := RF_.tr hf2 hk3 (by decide) (by decide) (by decide)
            have hR3 : RS_ D σ3 := RS_.tok hR2 hk3 (by decide)
            refine bx_iast (q := 172) (k := (4 * k) + A) rfl rfl (rfl) (by omega) (by omega) ?_
            refine ax_goto (x := 91) rfl ?_
            have hst : lev_ tp n nS k (m + 1) D p h = lev_ tp n nS k m (du_ D 161 (4 * k + A) v3) p3 (h ||| 2 ^ A) := by rw [lev_]; simp only [sb_, if_neg h104, e1]; refine (if_neg hbf).trans ?_; rw [e3]; rfl
            rw [hst] at hN hY
            have hu := hb_up h hh16 A hA4 (by simpa using hbf)
            exact ih _ _ _ _ _ (PS_sI hP3 (by decide) (by decide)) (f_sI (by decide) h23) (RS_.sa hR3 (by decide)) hS (fp_sI hf3 (by decide) (by decide)) hu.1 (by omega) hN hY
        · have hbt := it_1 (by omega)
          refine ax_load (q := 134) rfl rfl rfl rfl rfl ?_
          refine ax_const (q := 135) (v := am_I 3) rfl rfl rfl ?_
          refine ax_callv (q := 138) rfl rfl rfl rfl rfl rfl ?_
          refine m_wrong (by omega) ?_
          rw [if_neg (by rw [h21]; decide)]
          obtain ⟨x2, hx2⟩ : ∃ s, s = wr_ σ1 3 := ⟨_, rfl⟩
          rw [← hx2]
          have hbad : 0 < x2.1 135 2 := by rw [hx2]; exact wr_2 σ1 (by decide)
          have hfx : RF_ σ0 x2 := by rw [hx2]; exact fp_wr hf1 (by decide) (by decide)
          have hF : FT_ tp n (3, p) x2 := by rw [hx2]; exact FT_wr hP1 3
          have h0 : (0 : Int) < 3 := by decide
          have hres : lev_ tp n nS k (m + 1) D p h = Sum.inl (3, p) := by simp only [lev_, sb_, if_neg h104, e1]; exact if_pos hbt
          refine ax_load (q := 139) rfl rfl rfl rfl rfl ?_
          refine ax_getf (q := 142) (v := am_I ((x2).1 135 2)) rfl rfl (rfl) ?_
          refine ax_if_ne (q := 145) (x := 149) rfl rfl (fun h142 => ?_) (fun h => absurd h (ne_p hbad))
          refine ax_load (q := 150) rfl rfl rfl rfl rfl ?_
          refine ax_const (q := 151) (v := am_I 1) rfl rfl rfl ?_
          refine ax_load (q := 152) rfl rfl rfl rfl rfl ?_
          refine ax_ishl (q := 153) (z := ((2 ^ A : Nat) : Int)) rfl rfl (am_shl1 A (by omega)) ?_
          refine ax_ior (q := 154) (z := ((h ||| 2 ^ A : Nat) : Int)) rfl rfl (am_or_nat (by omega) (Nat.pow_lt_pow_right (by decide) (by omega))) ?_
          refine ax_store (q := 155) (L' := [some (am_R 135), some (am_I ((k : Nat) : Int)), some (am_I ((h ||| 2 ^ A : Nat) : Int)), some (am_I ((A : Nat) : Int))]) rfl rfl rfl rfl rfl rfl ?_
          refine ax_load (q := 156) rfl rfl rfl rfl rfl ?_
          refine ax_getf (q := 159) (v := am_R 161) rfl rfl (rfl) ?_
          refine ax_const (q := 160) (v := am_I 4) rfl rfl rfl ?_
          refine ax_load (q := 161) rfl rfl rfl rfl rfl ?_
          refine ax_imul (q := 162) (z := ((4 * k : Nat) : Int)) rfl rfl (am_we (by omega) (by omega) (by omega)) ?_
          refine ax_load (q := 163) rfl rfl rfl rfl rfl ?_
          refine ax_iadd (q := 164) (z := (((4 * k) + A : Nat) : Int)) rfl rfl (am_we (by omega) (by omega) (by omega)) ?_
          refine ax_load (q := 165) rfl rfl rfl rfl rfl ?_
          refine ax_const (q := 166) (v := am_I 0) rfl rfl rfl ?_
          refine ax_const (q := 168) (v := am_I 20) rfl rfl rfl ?_
          refine ax_callv (q := 171) rfl rfl rfl rfl rfl rfl ?_
          refine z_toldNumber (by omega) hbad ?_
          refine bx_iast (q := 172) (k := (4 * k) + A) rfl rfl (rfl) (by omega) (by omega) ?_
          refine ax_goto (x := 91) rfl ?_
          refine ax_load (q := 92) rfl rfl rfl rfl rfl ?_
          refine ax_getf (q := 95) (v := am_I (((am_sI x2 161 (am_up (x2.1 161) ((4 * k) + A) 0))).1 135 2)) rfl rfl (rfl) ?_
          refine ax_if_ne (q := 98) (x := 175) rfl rfl (fun h95 => ?_) (fun h => absurd h (ne_p (b_sI (by decide) hbad)))
          exact hN _ hres _ _ _ (fp_sI hfx (by decide) (by decide)) h0 (F_sI (by decide) hF)

theorem lev_46 {tp : Nat → Int} {n nS k : Nat} : ∀ (m : Nat) (D : sp_T) (p h : Nat) (x : Int) {D' : sp_T} {p' : Nat}, lev_ tp n nS k m D p h = Sum.inr (D', p') → D 135 46 = x → D' 135 46 = x := by
  intro m
  induction m with
  | zero => intro D p h x D' p' e; cases e
  | succ m ih =>
    intro D p h x D' p' e hx
    rw [lev_] at e
    split at e
    · injection e with e; injection e with e1 e2; rw [← e1]; exact hx
    · cases ho : old_ tp n (D 137) 0 nS p with
      | inl q => rw [sb_l ho] at e; cases e
      | inr a =>
        rw [sb_r ho] at e
        split at e
        · cases e
        · cases hn : num_ tp n 0 20 (nxp_ tp n p) with
          | inl q => rw [sb_l hn] at e; cases e
          | inr b => rw [sb_r hn] at e; exact ih _ _ _ _ e hx

theorem z_told {d : Nat} (hd : 2 ≤ d) {σ : am_S} {w x y : Int} (h2 : 0 < σ.1 135 2) {Q : Option am_V → am_S → Prop} (hQ : Q (some (am_I 0)) σ) : am_Ev d 153 [am_R 135, am_J w, am_I x, am_I y] σ Q := by
  obtain ⟨d, rfl⟩ : ∃ e, d = e + 1 := ⟨d - 1, by omega⟩
  refine ev_in (m := 153) (c := k_X9_told) (L := [some (am_R 135), some (am_J w), none, some (am_I x), some (am_I y)]) rfl rfl rfl rfl rfl rfl ?_
  refine ax_load (q := 1) rfl rfl rfl rfl rfl ?_
  refine ax_load (q := 2) rfl rfl rfl rfl rfl ?_
  refine ax_callv (q := 5) rfl rfl rfl rfl rfl rfl ?_
  refine z_want (by omega) h2 ?_
  refine ax_load (q := 6) rfl rfl rfl rfl rfl ?_
  refine ax_load (q := 7) rfl rfl rfl rfl rfl ?_
  refine ax_load (q := 9) rfl rfl rfl rfl rfl ?_
  refine ax_callv (q := 12) rfl rfl rfl rfl rfl rfl ?_
  refine z_toldNumber (by omega) h2 ?_
  refine ax_ret (r := some (am_I 0)) rfl rfl ?_
  exact hQ

theorem r_readPerson {d : Nat} (hd : 6 ≤ d) {σ : am_S} {tp : Nat → Int} {n p : Nat} (hP : PS_ tp n p σ) (h02 : σ.1 135 2 = 0) {D : sp_T} (hR : RS_ D σ) {k nS nR : Nat} (hk : D 135 46 = (k : Int)) (hk6 : k < 6) (hS : D 135 43 = (nS : Int)) (hS4 : nS ≤ 4) (hRR : D 135 45 = (nR : Int)) (hR3 : nR ≤ 3) {Q : Option am_V → am_S → Prop} (hQ : LO_ tp n (per_ tp n D k nS nR p) σ Q) : am_Ev d 178 [am_R 135] σ Q := by
  obtain ⟨d, rfl⟩ : ∃ e, d = e + 1 := ⟨d - 1, by omega⟩
  have hg := hR.2.2
  have hk' := (hR.2.1 46 (by decide)).trans hk
  refine ev_in (m := 178) (c := k_X9_readPerson) (L := [some (am_R 135), none, none, none]) rfl rfl rfl rfl rfl rfl ?_
  refine ax_load (q := 1) rfl rfl rfl rfl rfl ?_
  refine ax_const (q := 3) (v := am_I 15) rfl rfl rfl ?_
  refine ax_load (q := 4) rfl rfl rfl rfl rfl ?_
  refine ax_getf (q := 7) (v := am_I ((k : Nat) : Int)) rfl rfl (am_fg rfl hk') ?_
  refine ax_callv (q := 10) rfl rfl rfl rfl rfl rfl ?_
  refine r_newName (b := 15) (m := k) (by omega) hP h02 hg (by omega) (fun e he x1 hk1 h0 hF => ?_) (fun p1 e1 σ1 hk1 h21 hP1 h71 => ?_)
  · have hbad := FT_pos hF h0
    have hfx : RF_ σ x1 := RF_.tr (RF_.rf σ) hk1 (by decide) (by decide) (by decide)
    have hres : per_ tp n D k nS nR p = Sum.inl e := by simp only [per_, sb_, he]
    have hk46x1 : x1.1 135 46 = (k : Int) := (hk1.2.1 46 (by decide)).trans ((hR.2.1 46 (by decide)).trans (by simp [du_, am_up, hk]))
    have hk45x1 : x1.1 135 45 = (nR : Int) := (hk1.2.1 45 (by decide)).trans ((hR.2.1 45 (by decide)).trans (by simp [du_, am_up, hRR]))
    refine ax_load (q := 11) rfl rfl rfl rfl rfl ?_
    refine ax_getf (q := 14) (v := am_I ((k : Nat) : Int)) rfl rfl (am_fg rfl hk46x1) ?_
    refine ax_store (q := 15) (L' := [some (am_R 135), some (am_I ((k : Nat) : Int)), none, none]) rfl rfl rfl rfl rfl rfl ?_
    refine ax_load (q := 16) rfl rfl rfl rfl rfl ?_
    refine ax_const (q := 19) (v := am_J 28518) rfl rfl rfl ?_
    refine ax_callv (q := 22) rfl rfl rfl rfl rfl rfl ?_
    refine z_want (by omega) hbad ?_
    refine ax_load (q := 23) rfl rfl rfl rfl rfl ?_
    refine ax_getf (q := 26) (v := am_R 159) rfl rfl (rfl) ?_
    refine ax_load (q := 27) rfl rfl rfl rfl rfl ?_
    refine ax_load (q := 28) rfl rfl rfl rfl rfl ?_
    refine ax_const (q := 30) (v := am_I 12) rfl rfl rfl ?_
    refine ax_load (q := 31) rfl rfl rfl rfl rfl ?_
    refine ax_getf (q := 34) (v := am_I ((nR : Nat) : Int)) rfl rfl (am_fg rfl hk45x1) ?_
    refine ax_callv (q := 37) rfl rfl rfl rfl rfl rfl ?_
    refine z_oldName (by omega) hbad ?_
    refine bx_iast (q := 38) (k := k) rfl rfl (rfl) (by omega) (by omega) ?_
    refine ax_load (q := 39) rfl rfl rfl rfl rfl ?_
    refine ax_getf (q := 42) (v := am_I (((am_sI x1 159 (am_up (x1.1 159) k 0))).1 135 2)) rfl rfl (rfl) ?_
    refine ax_if_ne (q := 45) (x := 49) rfl rfl (fun h42 => ?_) (fun h => absurd h (ne_p (b_sI (by decide) hbad)))
    refine ax_load (q := 50) rfl rfl rfl rfl rfl ?_
    refine ax_getf (q := 53) (v := am_R 160) rfl rfl (rfl) ?_
    refine ax_load (q := 54) rfl rfl rfl rfl rfl ?_
    refine ax_load (q := 55) rfl rfl rfl rfl rfl ?_
    refine ax_const (q := 58) (v := am_J 6383461) rfl rfl rfl ?_
    refine ax_const (q := 59) (v := am_I 0) rfl rfl rfl ?_
    refine ax_const (q := 61) (v := am_I 39) rfl rfl rfl ?_
    refine ax_callv (q := 64) rfl rfl rfl rfl rfl rfl ?_
    refine z_told (by omega) (b_sI (by decide) hbad) ?_
    refine bx_iast (q := 65) (k := k) rfl rfl (rfl) (by omega) (by omega) ?_
    refine ax_const (q := 66) (v := am_I 0) rfl rfl rfl ?_
    refine ax_store (q := 67) (L' := [some (am_R 135), some (am_I ((k : Nat) : Int)), some (am_I 0), none]) rfl rfl rfl rfl rfl rfl ?_
    refine ax_load (q := 68) rfl rfl rfl rfl rfl ?_
    refine ax_const (q := 69) (v := am_I 4) rfl rfl rfl ?_
    refine ax_icmp_ge (q := 72) (x := 89) rfl rfl (fun h => absurd h (by omega)) (fun h69 => ?_)
    refine ax_load (q := 73) rfl rfl rfl rfl rfl ?_
    refine ax_getf (q := 76) (v := am_R 161) rfl rfl (rfl) ?_
    refine ax_const (q := 77) (v := am_I 4) rfl rfl rfl ?_
    refine ax_load (q := 78) rfl rfl rfl rfl rfl ?_
    refine ax_imul (q := 79) (z := ((4 * k : Nat) : Int)) rfl rfl (am_we (by omega) (by omega) (by omega)) ?_
    refine ax_load (q := 80) rfl rfl rfl rfl rfl ?_
    refine ax_iadd (q := 81) (z := (((4 * k) + 0 : Nat) : Int)) rfl rfl (am_we (by omega) (by omega) (by omega)) ?_
    refine ax_const (q := 82) (v := am_I 0) rfl rfl rfl ?_
    refine bx_iast (q := 83) (k := (4 * k) + 0) rfl rfl (rfl) (by omega) (by omega) ?_
    refine ax_iinc (q := 86) (z' := ((1 : Nat) : Int)) (L' := [some (am_R 135), some (am_I ((k : Nat) : Int)), some (am_I ((1 : Nat) : Int)), none]) rfl rfl rfl rfl (am_we (by omega) (by omega) (by omega)) rfl ?_
    refine ax_goto (x := 67) rfl ?_
    refine ax_load (q := 68) rfl rfl rfl rfl rfl ?_
    refine ax_const (q := 69) (v := am_I 4) rfl rfl rfl ?_
    refine ax_icmp_ge (q := 72) (x := 89) rfl rfl (fun h => absurd h (by omega)) (fun h69 => ?_)
    refine ax_load (q := 73) rfl rfl rfl rfl rfl ?_
    refine ax_getf (q := 76) (v := am_R 161) rfl rfl (rfl) ?_
    refine ax_const (q := 77) (v := am_I 4) rfl rfl rfl ?_
    refine ax_load (q := 78) rfl rfl rfl rfl rfl ?_
    refine ax_imul (q := 79) (z := ((4 * k : Nat) : Int)) rfl rfl (am_we (by omega) (by omega) (by omega)) ?_
    refine ax_load (q := 80) rfl rfl rfl rfl rfl ?_
    refine ax_iadd (q := 81) (z := (((4 * k) + 1 : Nat) : Int)) rfl rfl (am_we (by omega) (by omega) (by omega)) ?_
    refine ax_const (q := 82) (v := am_I 0) rfl rfl rfl ?_
    refine bx_iast (q := 83) (k := (4 * k) + 1) rfl rfl (rfl) (by omega) (by omega) ?_
    refine ax_iinc (q := 86) (z' := ((2 : Nat) : Int)) (L' := [some (am_R 135), some (am_I ((k : Nat) : Int)), some (am_I ((2 : Nat) : Int)), none]) rfl rfl rfl rfl (am_we (by omega) (by omega) (by omega)) rfl ?_
    refine ax_goto (x := 67) rfl ?_
    refine ax_load (q := 68) rfl rfl rfl rfl rfl ?_
    refine ax_const (q := 69) (v := am_I 4) rfl rfl rfl ?_
    refine ax_icmp_ge (q := 72) (x := 89) rfl rfl (fun h => absurd h (by omega)) (fun h69 => ?_)
    refine ax_load (q := 73) rfl rfl rfl rfl rfl ?_
    refine ax_getf (q := 76) (v := am_R 161) rfl rfl (rfl) ?_
    refine ax_const (q := 77) (v := am_I 4) rfl rfl rfl ?_
    refine ax_load (q := 78) rfl rfl rfl rfl rfl ?_
    refine ax_imul (q := 79) (z := ((4 * k : Nat) : Int)) rfl rfl (am_we (by omega) (by omega) (by omega)) ?_
    refine ax_load (q := 80) rfl rfl rfl rfl rfl ?_
    refine ax_iadd (q := 81) (z := (((4 * k) + 2 : Nat) : Int)) rfl rfl (am_we (by omega) (by omega) (by omega)) ?_
    refine ax_const (q := 82) (v := am_I 0) rfl rfl rfl ?_
    refine bx_iast (q := 83) (k := (4 * k) + 2) rfl rfl (rfl) (by omega) (by omega) ?_
    refine ax_iinc (q := 86) (z' := ((3 : Nat) : Int)) (L' := [some (am_R 135), some (am_I ((k : Nat) : Int)), some (am_I ((3 : Nat) : Int)), none]) rfl rfl rfl rfl (am_we (by omega) (by omega) (by omega)) rfl ?_
    refine ax_goto (x := 67) rfl ?_
    refine ax_load (q := 68) rfl rfl rfl rfl rfl ?_
    refine ax_const (q := 69) (v := am_I 4) rfl rfl rfl ?_
    refine ax_icmp_ge (q := 72) (x := 89) rfl rfl (fun h => absurd h (by omega)) (fun h69 => ?_)
    refine ax_load (q := 73) rfl rfl rfl rfl rfl ?_
    refine ax_getf (q := 76) (v := am_R 161) rfl rfl (rfl) ?_
    refine ax_const (q := 77) (v := am_I 4) rfl rfl rfl ?_
    refine ax_load (q := 78) rfl rfl rfl rfl rfl ?_
    refine ax_imul (q := 79) (z := ((4 * k : Nat) : Int)) rfl rfl (am_we (by omega) (by omega) (by omega)) ?_
    refine ax_load (q := 80) rfl rfl rfl rfl rfl ?_
    refine ax_iadd (q := 81) (z := (((4 * k) + 3 : Nat) : Int)) rfl rfl (am_we (by omega) (by omega) (by omega)) ?_
    refine ax_const (q := 82) (v := am_I 0) rfl rfl rfl ?_
    refine bx_iast (q := 83) (k := (4 * k) + 3) rfl rfl (rfl) (by omega) (by omega) ?_
    refine ax_iinc (q := 86) (z' := ((4 : Nat) : Int)) (L' := [some (am_R 135), some (am_I ((k : Nat) : Int)), some (am_I ((4 : Nat) : Int)), none]) rfl rfl rfl rfl (am_we (by omega) (by omega) (by omega)) rfl ?_
    refine ax_goto (x := 67) rfl ?_
    refine ax_load (q := 68) rfl rfl rfl rfl rfl ?_
    refine ax_const (q := 69) (v := am_I 4) rfl rfl rfl ?_
    refine ax_icmp_ge (q := 72) (x := 89) rfl rfl (fun h69 => ?_) (fun h => absurd h (by omega))
    refine ax_const (q := 90) (v := am_I 0) rfl rfl rfl ?_
    refine ax_store (q := 91) (L' := [some (am_R 135), some (am_I ((k : Nat) : Int)), some (am_I 0), none]) rfl rfl rfl rfl rfl rfl ?_
    refine ax_load (q := 92) rfl rfl rfl rfl rfl ?_
    refine ax_getf (q := 95) (v := am_I (((am_sI (am_sI (am_sI (am_sI (am_sI (am_sI x1 159 (am_up (x1.1 159) k 0)) 160 (am_up ((am_sI x1 159 (am_up (x1.1 159) k 0)).1 160) k 0)) 161 (am_up ((am_sI (am_sI x1 159 (am_up (x1.1 159) k 0)) 160 (am_up ((am_sI x1 159 (am_up (x1.1 159) k 0)).1 160) k 0)).1 161) ((4 * k) + 0) 0)) 161 (am_up ((am_sI (am_sI (am_sI x1 159 (am_up (x1.1 159) k 0)) 160 (am_up ((am_sI x1 159 (am_up (x1.1 159) k 0)).1 160) k 0)) 161 (am_up ((am_sI (am_sI x1 159 (am_up (x1.1 159) k 0)) 160 (am_up ((am_sI x1 159 (am_up (x1.1 159) k 0)).1 160) k 0)).1 161) ((4 * k) + 0) 0)).1 161) ((4 * k) + 1) 0)) 161 (am_up ((am_sI (am_sI (am_sI (am_sI x1 159 (am_up (x1.1 159) k 0)) 160 (am_up ((am_sI x1 159 (am_up (x1.1 159) k 0)).1 160) k 0)) 161 (am_up ((am_sI (am_sI x1 159 (am_up (x1.1 159) k 0)) 160 (am_up ((am_sI x1 159 (am_up (x1.1 159) k 0)).1 160) k 0)).1 161) ((4 * k) + 0) 0)) 161 (am_up ((am_sI (am_sI (am_sI x1 159 (am_up (x1.1 159) k 0)) 160 (am_up ((am_sI x1 159 (am_up (x1.1 159) k 0)).1 160) k 0)) 161 (am_up ((am_sI (am_sI x1 159 (am_up (x1.1 159) k 0)) 160 (am_up ((am_sI x1 159 (am_up (x1.1 159) k 0)).1 160) k 0)).1 161) ((4 * k) + 0) 0)).1 161) ((4 * k) + 1) 0)).1 161) ((4 * k) + 2) 0)) 161 (am_up ((am_sI (am_sI (am_sI (am_sI (am_sI x1 159 (am_up (x1.1 159) k 0)) 160 (am_up ((am_sI x1 159 (am_up (x1.1 159) k 0)).1 160) k 0)) 161 (am_up ((am_sI (am_sI x1 159 (am_up (x1.1 159) k 0)) 160 (am_up ((am_sI x1 159 (am_up (x1.1 159) k 0)).1 160) k 0)).1 161) ((4 * k) + 0) 0)) 161 (am_up ((am_sI (am_sI (am_sI x1 159 (am_up (x1.1 159) k 0)) 160 (am_up ((am_sI x1 159 (am_up (x1.1 159) k 0)).1 160) k 0)) 161 (am_up ((am_sI (am_sI x1 159 (am_up (x1.1 159) k 0)) 160 (am_up ((am_sI x1 159 (am_up (x1.1 159) k 0)).1 160) k 0)).1 161) ((4 * k) + 0) 0)).1 161) ((4 * k) + 1) 0)) 161 (am_up ((am_sI (am_sI (am_sI (am_sI x1 159 (am_up (x1.1 159) k 0)) 160 (am_up ((am_sI x1 159 (am_up (x1.1 159) k 0)).1 160) k 0)) 161 (am_up ((am_sI (am_sI x1 159 (am_up (x1.1 159) k 0)) 160 (am_up ((am_sI x1 159 (am_up (x1.1 159) k 0)).1 160) k 0)).1 161) ((4 * k) + 0) 0)) 161 (am_up ((am_sI (am_sI (am_sI x1 159 (am_up (x1.1 159) k 0)) 160 (am_up ((am_sI x1 159 (am_up (x1.1 159) k 0)).1 160) k 0)) 161 (am_up ((am_sI (am_sI x1 159 (am_up (x1.1 159) k 0)) 160 (am_up ((am_sI x1 159 (am_up (x1.1 159) k 0)).1 160) k 0)).1 161) ((4 * k) + 0) 0)).1 161) ((4 * k) + 1) 0)).1 161) ((4 * k) + 2) 0)).1 161) ((4 * k) + 3) 0))).1 135 2)) rfl rfl (rfl) ?_
    refine ax_if_ne (q := 98) (x := 175) rfl rfl (fun h95 => ?_) (fun h => absurd h (ne_p (b_sI (by decide) (b_sI (by decide) (b_sI (by decide) (b_sI (by decide) (b_sI (by decide) (b_sI (by decide) hbad))))))))
    refine ax_load (q := 176) rfl rfl rfl rfl rfl ?_
    refine ax_getf (q := 179) (v := am_I (((am_sI (am_sI (am_sI (am_sI (am_sI (am_sI x1 159 (am_up (x1.1 159) k 0)) 160 (am_up ((am_sI x1 159 (am_up (x1.1 159) k 0)).1 160) k 0)) 161 (am_up ((am_sI (am_sI x1 159 (am_up (x1.1 159) k 0)) 160 (am_up ((am_sI x1 159 (am_up (x1.1 159) k 0)).1 160) k 0)).1 161) ((4 * k) + 0) 0)) 161 (am_up ((am_sI (am_sI (am_sI x1 159 (am_up (x1.1 159) k 0)) 160 (am_up ((am_sI x1 159 (am_up (x1.1 159) k 0)).1 160) k 0)) 161 (am_up ((am_sI (am_sI x1 159 (am_up (x1.1 159) k 0)) 160 (am_up ((am_sI x1 159 (am_up (x1.1 159) k 0)).1 160) k 0)).1 161) ((4 * k) + 0) 0)).1 161) ((4 * k) + 1) 0)) 161 (am_up ((am_sI (am_sI (am_sI (am_sI x1 159 (am_up (x1.1 159) k 0)) 160 (am_up ((am_sI x1 159 (am_up (x1.1 159) k 0)).1 160) k 0)) 161 (am_up ((am_sI (am_sI x1 159 (am_up (x1.1 159) k 0)) 160 (am_up ((am_sI x1 159 (am_up (x1.1 159) k 0)).1 160) k 0)).1 161) ((4 * k) + 0) 0)) 161 (am_up ((am_sI (am_sI (am_sI x1 159 (am_up (x1.1 159) k 0)) 160 (am_up ((am_sI x1 159 (am_up (x1.1 159) k 0)).1 160) k 0)) 161 (am_up ((am_sI (am_sI x1 159 (am_up (x1.1 159) k 0)) 160 (am_up ((am_sI x1 159 (am_up (x1.1 159) k 0)).1 160) k 0)).1 161) ((4 * k) + 0) 0)).1 161) ((4 * k) + 1) 0)).1 161) ((4 * k) + 2) 0)) 161 (am_up ((am_sI (am_sI (am_sI (am_sI (am_sI x1 159 (am_up (x1.1 159) k 0)) 160 (am_up ((am_sI x1 159 (am_up (x1.1 159) k 0)).1 160) k 0)) 161 (am_up ((am_sI (am_sI x1 159 (am_up (x1.1 159) k 0)) 160 (am_up ((am_sI x1 159 (am_up (x1.1 159) k 0)).1 160) k 0)).1 161) ((4 * k) + 0) 0)) 161 (am_up ((am_sI (am_sI (am_sI x1 159 (am_up (x1.1 159) k 0)) 160 (am_up ((am_sI x1 159 (am_up (x1.1 159) k 0)).1 160) k 0)) 161 (am_up ((am_sI (am_sI x1 159 (am_up (x1.1 159) k 0)) 160 (am_up ((am_sI x1 159 (am_up (x1.1 159) k 0)).1 160) k 0)).1 161) ((4 * k) + 0) 0)).1 161) ((4 * k) + 1) 0)) 161 (am_up ((am_sI (am_sI (am_sI (am_sI x1 159 (am_up (x1.1 159) k 0)) 160 (am_up ((am_sI x1 159 (am_up (x1.1 159) k 0)).1 160) k 0)) 161 (am_up ((am_sI (am_sI x1 159 (am_up (x1.1 159) k 0)) 160 (am_up ((am_sI x1 159 (am_up (x1.1 159) k 0)).1 160) k 0)).1 161) ((4 * k) + 0) 0)) 161 (am_up ((am_sI (am_sI (am_sI x1 159 (am_up (x1.1 159) k 0)) 160 (am_up ((am_sI x1 159 (am_up (x1.1 159) k 0)).1 160) k 0)) 161 (am_up ((am_sI (am_sI x1 159 (am_up (x1.1 159) k 0)) 160 (am_up ((am_sI x1 159 (am_up (x1.1 159) k 0)).1 160) k 0)).1 161) ((4 * k) + 0) 0)).1 161) ((4 * k) + 1) 0)).1 161) ((4 * k) + 2) 0)).1 161) ((4 * k) + 3) 0))).1 135 2)) rfl rfl (rfl) ?_
    refine ax_if_ne (q := 182) (x := 192) rfl rfl (fun h179 => ?_) (fun h => absurd h (ne_p (b_sI (by decide) (b_sI (by decide) (b_sI (by decide) (b_sI (by decide) (b_sI (by decide) (b_sI (by decide) hbad))))))))
    refine ax_ret (r := none) rfl rfl ?_
    exact hQ.1 _ hres _ (fp_sI (fp_sI (fp_sI (fp_sI (fp_sI (fp_sI hfx (by decide) (by decide)) (by decide) (by decide)) (by decide) (by decide)) (by decide) (by decide)) (by decide) (by decide)) (by decide) (by decide)) h0 (F_sI (by decide) (F_sI (by decide) (F_sI (by decide) (F_sI (by decide) (F_sI (by decide) (F_sI (by decide) hF))))))
  · have hf1 : RF_ σ σ1 := RF_.tr (RF_.rf σ) hk1 (by decide) (by decide) (by decide)
    have hR1 : RS_ (du_ D 137 (15 + k) (tkw_ tp n (nxp_ tp n p))) σ1 := RS_.nm hR hk1 (by decide) h71
    refine ax_load (q := 11) rfl rfl rfl rfl rfl ?_
    refine ax_getf (q := 14) (v := am_I ((k : Nat) : Int)) rfl rfl (am_fg rfl ((hR1.2.1 46 (by decide)).trans (by simp [du_, am_up, hk]))) ?_
    refine ax_store (q := 15) (L' := [some (am_R 135), some (am_I ((k : Nat) : Int)), none, none]) rfl rfl rfl rfl rfl rfl ?_
    refine ax_load (q := 16) rfl rfl rfl rfl rfl ?_
    refine ax_const (q := 19) (v := am_J 28518) rfl rfl rfl ?_
    refine ax_callv (q := 22) rfl rfl rfl rfl rfl rfl ?_
    refine r_want (by omega) hP1 h21 (fun e he x2 hk2 h0 hF => ?_) (fun p2 e2 σ2 hk2 h22 hP2 => ?_)
    · have hbad := FT_pos hF h0
      have hfx : RF_ σ x2 := RF_.tr hf1 hk2 (by decide) (by decide) (by decide)
      have hres : per_ tp n D k nS nR p = Sum.inl e := by simp only [per_, sb_, e1, he]
      have hk46x2 : x2.1 135 46 = (k : Int) := (hk2.2.1 46 (by decide)).trans ((hR1.2.1 46 (by decide)).trans (by simp [du_, am_up, hk]))
      have hk45x2 : x2.1 135 45 = (nR : Int) := (hk2.2.1 45 (by decide)).trans ((hR1.2.1 45 (by decide)).trans (by simp [du_, am_up, hRR]))
      refine ax_load (q := 23) rfl rfl rfl rfl rfl ?_
      refine ax_getf (q := 26) (v := am_R 159) rfl rfl (rfl) ?_
      refine ax_load (q := 27) rfl rfl rfl rfl rfl ?_
      refine ax_load (q := 28) rfl rfl rfl rfl rfl ?_
      refine ax_const (q := 30) (v := am_I 12) rfl rfl rfl ?_
      refine ax_load (q := 31) rfl rfl rfl rfl rfl ?_
      refine ax_getf (q := 34) (v := am_I ((nR : Nat) : Int)) rfl rfl (am_fg rfl hk45x2) ?_
      refine ax_callv (q := 37) rfl rfl rfl rfl rfl rfl ?_
      refine z_oldName (by omega) hbad ?_
      refine bx_iast (q := 38) (k := k) rfl rfl (rfl) (by omega) (by omega) ?_
      refine ax_load (q := 39) rfl rfl rfl rfl rfl ?_
      refine ax_getf (q := 42) (v := am_I (((am_sI x2 159 (am_up (x2.1 159) k 0))).1 135 2)) rfl rfl (rfl) ?_
      refine ax_if_ne (q := 45) (x := 49) rfl rfl (fun h42 => ?_) (fun h => absurd h (ne_p (b_sI (by decide) hbad)))
      refine ax_load (q := 50) rfl rfl rfl rfl rfl ?_
      refine ax_getf (q := 53) (v := am_R 160) rfl rfl (rfl) ?_
      refine ax_load (q := 54) rfl rfl rfl rfl rfl ?_
      refine ax_load (q := 55) rfl rfl rfl rfl rfl ?_
      refine ax_const (q := 58) (v := am_J 6383461) rfl rfl rfl ?_
      refine ax_const (q := 59) (v := am_I 0) rfl rfl rfl ?_
      refine ax_const (q := 61) (v := am_I 39) rfl rfl rfl ?_
      refine ax_callv (q := 64) rfl rfl rfl rfl rfl rfl ?_
      refine z_told (by omega) (b_sI (by decide) hbad) ?_
      refine bx_iast (q := 65) (k := k) rfl rfl (rfl) (by omega) (by omega) ?_
      refine ax_const (q := 66) (v := am_I 0) rfl rfl rfl ?_
      refine ax_store (q := 67) (L' := [some (am_R 135), some (am_I ((k : Nat) : Int)), some (am_I 0), none]) rfl rfl rfl rfl rfl rfl ?_
      refine ax_load (q := 68) rfl rfl rfl rfl rfl ?_
      refine ax_const (q := 69) (v := am_I 4) rfl rfl rfl ?_
      refine ax_icmp_ge (q := 72) (x := 89) rfl rfl (fun h => absurd h (by omega)) (fun h69 => ?_)
      refine ax_load (q := 73) rfl rfl rfl rfl rfl ?_
      refine ax_getf (q := 76) (v := am_R 161) rfl rfl (rfl) ?_
      refine ax_const (q := 77) (v := am_I 4) rfl rfl rfl ?_
      refine ax_load (q := 78) rfl rfl rfl rfl rfl ?_
      refine ax_imul (q := 79) (z := ((4 * k : Nat) : Int)) rfl rfl (am_we (by omega) (by omega) (by omega)) ?_
      refine ax_load (q := 80) rfl rfl rfl rfl rfl ?_
      refine ax_iadd (q := 81) (z := (((4 * k) + 0 : Nat) : Int)) rfl rfl (am_we (by omega) (by omega) (by omega)) ?_
      refine ax_const (q := 82) (v := am_I 0) rfl rfl rfl ?_
      refine bx_iast (q := 83) (k := (4 * k) + 0) rfl rfl (rfl) (by omega) (by omega) ?_
      refine ax_iinc (q := 86) (z' := ((1 : Nat) : Int)) (L' := [some (am_R 135), some (am_I ((k : Nat) : Int)), some (am_I ((1 : Nat) : Int)), none]) rfl rfl rfl rfl (am_we (by omega) (by omega) (by omega)) rfl ?_
      refine ax_goto (x := 67) rfl ?_
      refine ax_load (q := 68) rfl rfl rfl rfl rfl ?_
      refine ax_const (q := 69) (v := am_I 4) rfl rfl rfl ?_
      refine ax_icmp_ge (q := 72) (x := 89) rfl rfl (fun h => absurd h (by omega)) (fun h69 => ?_)
      refine ax_load (q := 73) rfl rfl rfl rfl rfl ?_
      refine ax_getf (q := 76) (v := am_R 161) rfl rfl (rfl) ?_
      refine ax_const (q := 77) (v := am_I 4) rfl rfl rfl ?_
      refine ax_load (q := 78) rfl rfl rfl rfl rfl ?_
      refine ax_imul (q := 79) (z := ((4 * k : Nat) : Int)) rfl rfl (am_we (by omega) (by omega) (by omega)) ?_
      refine ax_load (q := 80) rfl rfl rfl rfl rfl ?_
      refine ax_iadd (q := 81) (z := (((4 * k) + 1 : Nat) : Int)) rfl rfl (am_we (by omega) (by omega) (by omega)) ?_
      refine ax_const (q := 82) (v := am_I 0) rfl rfl rfl ?_
      refine bx_iast (q := 83) (k := (4 * k) + 1) rfl rfl (rfl) (by omega) (by omega) ?_
      refine ax_iinc (q := 86) (z' := ((2 : Nat) : Int)) (L' := [some (am_R 135), some (am_I ((k : Nat) : Int)), some (am_I ((2 : Nat) : Int)), none]) rfl rfl rfl rfl (am_we (by omega) (by omega) (by omega)) rfl ?_
      refine ax_goto (x := 67) rfl ?_
      refine ax_load (q := 68) rfl rfl rfl rfl rfl ?_
      refine ax_const (q := 69) (v := am_I 4) rfl rfl rfl ?_
      refine ax_icmp_ge (q := 72) (x := 89) rfl rfl (fun h => absurd h (by omega)) (fun h69 => ?_)
      refine ax_load (q := 73) rfl rfl rfl rfl rfl ?_
      refine ax_getf (q := 76) (v := am_R 161) rfl rfl (rfl) ?_
      refine ax_const (q := 77) (v := am_I 4) rfl rfl rfl ?_
      refine ax_load (q := 78) rfl rfl rfl rfl rfl ?_
      refine ax_imul (q := 79) (z := ((4 * k : Nat) : Int)) rfl rfl (am_we (by omega) (by omega) (by omega)) ?_
      refine ax_load (q := 80) rfl rfl rfl rfl rfl ?_
      refine ax_iadd (q := 81) (z := (((4 * k) + 2 : Nat) : Int)) rfl rfl (am_we (by omega) (by omega) (by omega)) ?_
      refine ax_const (q := 82) (v := am_I 0) rfl rfl rfl ?_
      refine bx_iast (q := 83) (k := (4 * k) + 2) rfl rfl (rfl) (by omega) (by omega) ?_
      refine ax_iinc (q := 86) (z' := ((3 : Nat) : Int)) (L' := [some (am_R 135), some (am_I ((k : Nat) : Int)), some (am_I ((3 : Nat) : Int)), none]) rfl rfl rfl rfl (am_we (by omega) (by omega) (by omega)) rfl ?_
      refine ax_goto (x := 67) rfl ?_
      refine ax_load (q := 68) rfl rfl rfl rfl rfl ?_
      refine ax_const (q := 69) (v := am_I 4) rfl rfl rfl ?_
      refine ax_icmp_ge (q := 72) (x := 89) rfl rfl (fun h => absurd h (by omega)) (fun h69 => ?_)
      refine ax_load (q := 73) rfl rfl rfl rfl rfl ?_
      refine ax_getf (q := 76) (v := am_R 161) rfl rfl (rfl) ?_
      refine ax_const (q := 77) (v := am_I 4) rfl rfl rfl ?_
      refine ax_load (q := 78) rfl rfl rfl rfl rfl ?_
      refine ax_imul (q := 79) (z := ((4 * k : Nat) : Int)) rfl rfl (am_we (by omega) (by omega) (by omega)) ?_
      refine ax_load (q := 80) rfl rfl rfl rfl rfl ?_
      refine ax_iadd (q := 81) (z := (((4 * k) + 3 : Nat) : Int)) rfl rfl (am_we (by omega) (by omega) (by omega)) ?_
      refine ax_const (q := 82) (v := am_I 0) rfl rfl rfl ?_
      refine bx_iast (q := 83) (k := (4 * k) + 3) rfl rfl (rfl) (by omega) (by omega) ?_
      refine ax_iinc (q := 86) (z' := ((4 : Nat) : Int)) (L' := [some (am_R 135), some (am_I ((k : Nat) : Int)), some (am_I ((4 : Nat) : Int)), none]) rfl rfl rfl rfl (am_we (by omega) (by omega) (by omega)) rfl ?_
      refine ax_goto (x := 67) rfl ?_
      refine ax_load (q := 68) rfl rfl rfl rfl rfl ?_
      refine ax_const (q := 69) (v := am_I 4) rfl rfl rfl ?_
      refine ax_icmp_ge (q := 72) (x := 89) rfl rfl (fun h69 => ?_) (fun h => absurd h (by omega))
      refine ax_const (q := 90) (v := am_I 0) rfl rfl rfl ?_
      refine ax_store (q := 91) (L' := [some (am_R 135), some (am_I ((k : Nat) : Int)), some (am_I 0), none]) rfl rfl rfl rfl rfl rfl ?_
      refine ax_load (q := 92) rfl rfl rfl rfl rfl ?_
      refine ax_getf (q := 95) (v := am_I (((am_sI (am_sI (am_sI (am_sI (am_sI (am_sI x2 159 (am_up (x2.1 159) k 0)) 160 (am_up ((am_sI x2 159 (am_up (x2.1 159) k 0)).1 160) k 0)) 161 (am_up ((am_sI (am_sI x2 159 (am_up (x2.1 159) k 0)) 160 (am_up ((am_sI x2 159 (am_up (x2.1 159) k 0)).1 160) k 0)).1 161) ((4 * k) + 0) 0)) 161 (am_up ((am_sI (am_sI (am_sI x2 159 (am_up (x2.1 159) k 0)) 160 (am_up ((am_sI x2 159 (am_up (x2.1 159) k 0)).1 160) k 0)) 161 (am_up ((am_sI (am_sI x2 159 (am_up (x2.1 159) k 0)) 160 (am_up ((am_sI x2 159 (am_up (x2.1 159) k 0)).1 160) k 0)).1 161) ((4 * k) + 0) 0)).1 161) ((4 * k) + 1) 0)) 161 (am_up ((am_sI (am_sI (am_sI (am_sI x2 159 (am_up (x2.1 159) k 0)) 160 (am_up ((am_sI x2 159 (am_up (x2.1 159) k 0)).1 160) k 0)) 161 (am_up ((am_sI (am_sI x2 159 (am_up (x2.1 159) k 0)) 160 (am_up ((am_sI x2 159 (am_up (x2.1 159) k 0)).1 160) k 0)).1 161) ((4 * k) + 0) 0)) 161 (am_up ((am_sI (am_sI (am_sI x2 159 (am_up (x2.1 159) k 0)) 160 (am_up ((am_sI x2 159 (am_up (x2.1 159) k 0)).1 160) k 0)) 161 (am_up ((am_sI (am_sI x2 159 (am_up (x2.1 159) k 0)) 160 (am_up ((am_sI x2 159 (am_up (x2.1 159) k 0)).1 160) k 0)).1 161) ((4 * k) + 0) 0)).1 161) ((4 * k) + 1) 0)).1 161) ((4 * k) + 2) 0)) 161 (am_up ((am_sI (am_sI (am_sI (am_sI (am_sI x2 159 (am_up (x2.1 159) k 0)) 160 (am_up ((am_sI x2 159 (am_up (x2.1 159) k 0)).1 160) k 0)) 161 (am_up ((am_sI (am_sI x2 159 (am_up (x2.1 159) k 0)) 160 (am_up ((am_sI x2 159 (am_up (x2.1 159) k 0)).1 160) k 0)).1 161) ((4 * k) + 0) 0)) 161 (am_up ((am_sI (am_sI (am_sI x2 159 (am_up (x2.1 159) k 0)) 160 (am_up ((am_sI x2 159 (am_up (x2.1 159) k 0)).1 160) k 0)) 161 (am_up ((am_sI (am_sI x2 159 (am_up (x2.1 159) k 0)) 160 (am_up ((am_sI x2 159 (am_up (x2.1 159) k 0)).1 160) k 0)).1 161) ((4 * k) + 0) 0)).1 161) ((4 * k) + 1) 0)) 161 (am_up ((am_sI (am_sI (am_sI (am_sI x2 159 (am_up (x2.1 159) k 0)) 160 (am_up ((am_sI x2 159 (am_up (x2.1 159) k 0)).1 160) k 0)) 161 (am_up ((am_sI (am_sI x2 159 (am_up (x2.1 159) k 0)) 160 (am_up ((am_sI x2 159 (am_up (x2.1 159) k 0)).1 160) k 0)).1 161) ((4 * k) + 0) 0)) 161 (am_up ((am_sI (am_sI (am_sI x2 159 (am_up (x2.1 159) k 0)) 160 (am_up ((am_sI x2 159 (am_up (x2.1 159) k 0)).1 160) k 0)) 161 (am_up ((am_sI (am_sI x2 159 (am_up (x2.1 159) k 0)) 160 (am_up ((am_sI x2 159 (am_up (x2.1 159) k 0)).1 160) k 0)).1 161) ((4 * k) + 0) 0)).1 161) ((4 * k) + 1) 0)).1 161) ((4 * k) + 2) 0)).1 161) ((4 * k) + 3) 0))).1 135 2)) rfl rfl (rfl) ?_
      refine ax_if_ne (q := 98) (x := 175) rfl rfl (fun h95 => ?_) (fun h => absurd h (ne_p (b_sI (by decide) (b_sI (by decide) (b_sI (by decide) (b_sI (by decide) (b_sI (by decide) (b_sI (by decide) hbad))))))))
      refine ax_load (q := 176) rfl rfl rfl rfl rfl ?_
      refine ax_getf (q := 179) (v := am_I (((am_sI (am_sI (am_sI (am_sI (am_sI (am_sI x2 159 (am_up (x2.1 159) k 0)) 160 (am_up ((am_sI x2 159 (am_up (x2.1 159) k 0)).1 160) k 0)) 161 (am_up ((am_sI (am_sI x2 159 (am_up (x2.1 159) k 0)) 160 (am_up ((am_sI x2 159 (am_up (x2.1 159) k 0)).1 160) k 0)).1 161) ((4 * k) + 0) 0)) 161 (am_up ((am_sI (am_sI (am_sI x2 159 (am_up (x2.1 159) k 0)) 160 (am_up ((am_sI x2 159 (am_up (x2.1 159) k 0)).1 160) k 0)) 161 (am_up ((am_sI (am_sI x2 159 (am_up (x2.1 159) k 0)) 160 (am_up ((am_sI x2 159 (am_up (x2.1 159) k 0)).1 160) k 0)).1 161) ((4 * k) + 0) 0)).1 161) ((4 * k) + 1) 0)) 161 (am_up ((am_sI (am_sI (am_sI (am_sI x2 159 (am_up (x2.1 159) k 0)) 160 (am_up ((am_sI x2 159 (am_up (x2.1 159) k 0)).1 160) k 0)) 161 (am_up ((am_sI (am_sI x2 159 (am_up (x2.1 159) k 0)) 160 (am_up ((am_sI x2 159 (am_up (x2.1 159) k 0)).1 160) k 0)).1 161) ((4 * k) + 0) 0)) 161 (am_up ((am_sI (am_sI (am_sI x2 159 (am_up (x2.1 159) k 0)) 160 (am_up ((am_sI x2 159 (am_up (x2.1 159) k 0)).1 160) k 0)) 161 (am_up ((am_sI (am_sI x2 159 (am_up (x2.1 159) k 0)) 160 (am_up ((am_sI x2 159 (am_up (x2.1 159) k 0)).1 160) k 0)).1 161) ((4 * k) + 0) 0)).1 161) ((4 * k) + 1) 0)).1 161) ((4 * k) + 2) 0)) 161 (am_up ((am_sI (am_sI (am_sI (am_sI (am_sI x2 159 (am_up (x2.1 159) k 0)) 160 (am_up ((am_sI x2 159 (am_up (x2.1 159) k 0)).1 160) k 0)) 161 (am_up ((am_sI (am_sI x2 159 (am_up (x2.1 159) k 0)) 160 (am_up ((am_sI x2 159 (am_up (x2.1 159) k 0)).1 160) k 0)).1 161) ((4 * k) + 0) 0)) 161 (am_up ((am_sI (am_sI (am_sI x2 159 (am_up (x2.1 159) k 0)) 160 (am_up ((am_sI x2 159 (am_up (x2.1 159) k 0)).1 160) k 0)) 161 (am_up ((am_sI (am_sI x2 159 (am_up (x2.1 159) k 0)) 160 (am_up ((am_sI x2 159 (am_up (x2.1 159) k 0)).1 160) k 0)).1 161) ((4 * k) + 0) 0)).1 161) ((4 * k) + 1) 0)) 161 (am_up ((am_sI (am_sI (am_sI (am_sI x2 159 (am_up (x2.1 159) k 0)) 160 (am_up ((am_sI x2 159 (am_up (x2.1 159) k 0)).1 160) k 0)) 161 (am_up ((am_sI (am_sI x2 159 (am_up (x2.1 159) k 0)) 160 (am_up ((am_sI x2 159 (am_up (x2.1 159) k 0)).1 160) k 0)).1 161) ((4 * k) + 0) 0)) 161 (am_up ((am_sI (am_sI (am_sI x2 159 (am_up (x2.1 159) k 0)) 160 (am_up ((am_sI x2 159 (am_up (x2.1 159) k 0)).1 160) k 0)) 161 (am_up ((am_sI (am_sI x2 159 (am_up (x2.1 159) k 0)) 160 (am_up ((am_sI x2 159 (am_up (x2.1 159) k 0)).1 160) k 0)).1 161) ((4 * k) + 0) 0)).1 161) ((4 * k) + 1) 0)).1 161) ((4 * k) + 2) 0)).1 161) ((4 * k) + 3) 0))).1 135 2)) rfl rfl (rfl) ?_
      refine ax_if_ne (q := 182) (x := 192) rfl rfl (fun h179 => ?_) (fun h => absurd h (ne_p (b_sI (by decide) (b_sI (by decide) (b_sI (by decide) (b_sI (by decide) (b_sI (by decide) (b_sI (by decide) hbad))))))))
      refine ax_ret (r := none) rfl rfl ?_
      exact hQ.1 _ hres _ (fp_sI (fp_sI (fp_sI (fp_sI (fp_sI (fp_sI hfx (by decide) (by decide)) (by decide) (by decide)) (by decide) (by decide)) (by decide) (by decide)) (by decide) (by decide)) (by decide) (by decide)) h0 (F_sI (by decide) (F_sI (by decide) (F_sI (by decide) (F_sI (by decide) (F_sI (by decide) (F_sI (by decide) hF))))))
    · have hf2 : RF_ σ σ2 := RF_.tr hf1 hk2 (by decide) (by decide) (by decide)
      have hR2 : RS_ (du_ D 137 (15 + k) (tkw_ tp n (nxp_ tp n p))) σ2 := RS_.tok hR1 hk2 (by decide)
      have hg2 : σ2.2.1 137 = am_up (D 137) (15 + k) (tkw_ tp n (nxp_ tp n p)) := hR2.2.2.trans (am_up_same _ _ _)
      refine ax_load (q := 23) rfl rfl rfl rfl rfl ?_
      refine ax_getf (q := 26) (v := am_R 159) rfl rfl (rfl) ?_
      refine ax_load (q := 27) rfl rfl rfl rfl rfl ?_
      refine ax_load (q := 28) rfl rfl rfl rfl rfl ?_
      refine ax_const (q := 30) (v := am_I 12) rfl rfl rfl ?_
      refine ax_load (q := 31) rfl rfl rfl rfl rfl ?_
      refine ax_getf (q := 34) (v := am_I ((nR : Nat) : Int)) rfl rfl (am_fg rfl ((hR2.2.1 45 (by decide)).trans (by simp [du_, am_up, hRR]))) ?_
      refine ax_callv (q := 37) rfl rfl rfl rfl rfl rfl ?_
      refine r_oldName (b := 12) (m := nR) (by omega) hP2 h22 hg2 (by omega) ⟨fun e he x3 v hk3 h0 hF => ?_, fun A p3 e3 σ3 hk3 h23 hP3 => ?_⟩
      · have hbad := FT_pos hF h0
        have hfx : RF_ σ x3 := RF_.tr hf2 hk3 (by decide) (by decide) (by decide)
        have hres : per_ tp n D k nS nR p = Sum.inl e := by simp only [per_, sb_, e1, e2, he]
        have hk46x3 : x3.1 135 46 = (k : Int) := (hk3.2.1 46 (by decide)).trans ((hR2.2.1 46 (by decide)).trans (by simp [du_, am_up, hk]))
        have hk45x3 : x3.1 135 45 = (nR : Int) := (hk3.2.1 45 (by decide)).trans ((hR2.2.1 45 (by decide)).trans (by simp [du_, am_up, hRR]))
        refine bx_iast (q := 38) (k := k) rfl rfl (rfl) (by omega) (by omega) ?_
        refine ax_load (q := 39) rfl rfl rfl rfl rfl ?_
        refine ax_getf (q := 42) (v := am_I (((am_sI x3 159 (am_up (x3.1 159) k v))).1 135 2)) rfl rfl (rfl) ?_
        refine ax_if_ne (q := 45) (x := 49) rfl rfl (fun h42 => ?_) (fun h => absurd h (ne_p (b_sI (by decide) hbad)))
        refine ax_load (q := 50) rfl rfl rfl rfl rfl ?_
        refine ax_getf (q := 53) (v := am_R 160) rfl rfl (rfl) ?_
        refine ax_load (q := 54) rfl rfl rfl rfl rfl ?_
        refine ax_load (q := 55) rfl rfl rfl rfl rfl ?_
        refine ax_const (q := 58) (v := am_J 6383461) rfl rfl rfl ?_
        refine ax_const (q := 59) (v := am_I 0) rfl rfl rfl ?_
        refine ax_const (q := 61) (v := am_I 39) rfl rfl rfl ?_
        refine ax_callv (q := 64) rfl rfl rfl rfl rfl rfl ?_
        refine z_told (by omega) (b_sI (by decide) hbad) ?_
        refine bx_iast (q := 65) (k := k) rfl rfl (rfl) (by omega) (by omega) ?_
        refine ax_const (q := 66) (v := am_I 0) rfl rfl rfl ?_
        refine ax_store (q := 67) (L' := [some (am_R 135), some (am_I ((k : Nat) : Int)), some (am_I 0), none]) rfl rfl rfl rfl rfl rfl ?_
        refine ax_load (q := 68) rfl rfl rfl rfl rfl ?_
        refine ax_const (q := 69) (v := am_I 4) rfl rfl rfl ?_
        refine ax_icmp_ge (q := 72) (x := 89) rfl rfl (fun h => absurd h (by omega)) (fun h69 => ?_)
        refine ax_load (q := 73) rfl rfl rfl rfl rfl ?_
        refine ax_getf (q := 76) (v := am_R 161) rfl rfl (rfl) ?_
        refine ax_const (q := 77) (v := am_I 4) rfl rfl rfl ?_
        refine ax_load (q := 78) rfl rfl rfl rfl rfl ?_
        refine ax_imul (q := 79) (z := ((4 * k : Nat) : Int)) rfl rfl (am_we (by omega) (by omega) (by omega)) ?_
        refine ax_load (q := 80) rfl rfl rfl rfl rfl ?_
        refine ax_iadd (q := 81) (z := (((4 * k) + 0 : Nat) : Int)) rfl rfl (am_we (by omega) (by omega) (by omega)) ?_
        refine ax_const (q := 82) (v := am_I 0) rfl rfl rfl ?_
        refine bx_iast (q := 83) (k := (4 * k) + 0) rfl rfl (rfl) (by omega) (by omega) ?_
        refine ax_iinc (q := 86) (z' := ((1 : Nat) : Int)) (L' := [some (am_R 135), some (am_I ((k : Nat) : Int)), some (am_I ((1 : Nat) : Int)), none]) rfl rfl rfl rfl (am_we (by omega) (by omega) (by omega)) rfl ?_
        refine ax_goto (x := 67) rfl ?_
        refine ax_load (q := 68) rfl rfl rfl rfl rfl ?_
        refine ax_const (q := 69) (v := am_I 4) rfl rfl rfl ?_
        refine ax_icmp_ge (q := 72) (x := 89) rfl rfl (fun h => absurd h (by omega)) (fun h69 => ?_)
        refine ax_load (q := 73) rfl rfl rfl rfl rfl ?_
        refine ax_getf (q := 76) (v := am_R 161) rfl rfl (rfl) ?_
        refine ax_const (q := 77) (v := am_I 4) rfl rfl rfl ?_
        refine ax_load (q := 78) rfl rfl rfl rfl rfl ?_
        refine ax_imul (q := 79) (z := ((4 * k : Nat) : Int)) rfl rfl (am_we (by omega) (by omega) (by omega)) ?_
        refine ax_load (q := 80) rfl rfl rfl rfl rfl ?_
        refine ax_iadd (q := 81) (z := (((4 * k) + 1 : Nat) : Int)) rfl rfl (am_we (by omega) (by omega) (by omega)) ?_
        refine ax_const (q := 82) (v := am_I 0) rfl rfl rfl ?_
        refine bx_iast (q := 83) (k := (4 * k) + 1) rfl rfl (rfl) (by omega) (by omega) ?_
        refine ax_iinc (q := 86) (z' := ((2 : Nat) : Int)) (L' := [some (am_R 135), some (am_I ((k : Nat) : Int)), some (am_I ((2 : Nat) : Int)), none]) rfl rfl rfl rfl (am_we (by omega) (by omega) (by omega)) rfl ?_
        refine ax_goto (x := 67) rfl ?_
        refine ax_load (q := 68) rfl rfl rfl rfl rfl ?_
        refine ax_const (q := 69) (v := am_I 4) rfl rfl rfl ?_
        refine ax_icmp_ge (q := 72) (x := 89) rfl rfl (fun h => absurd h (by omega)) (fun h69 => ?_)
        refine ax_load (q := 73) rfl rfl rfl rfl rfl ?_
        refine ax_getf (q := 76) (v := am_R 161) rfl rfl (rfl) ?_
        refine ax_const (q := 77) (v := am_I 4) rfl rfl rfl ?_
        refine ax_load (q := 78) rfl rfl rfl rfl rfl ?_
        refine ax_imul (q := 79) (z := ((4 * k : Nat) : Int)) rfl rfl (am_we (by omega) (by omega) (by omega)) ?_
        refine ax_load (q := 80) rfl rfl rfl rfl rfl ?_
        refine ax_iadd (q := 81) (z := (((4 * k) + 2 : Nat) : Int)) rfl rfl (am_we (by omega) (by omega) (by omega)) ?_
        refine ax_const (q := 82) (v := am_I 0) rfl rfl rfl ?_
        refine bx_iast (q := 83) (k := (4 * k) + 2) rfl rfl (rfl) (by omega) (by omega) ?_
        refine ax_iinc (q := 86) (z' := ((3 : Nat) : Int)) (L' := [some (am_R 135), some (am_I ((k : Nat) : Int)), some (am_I ((3 : Nat) : Int)), none]) rfl rfl rfl rfl (am_we (by omega) (by omega) (by omega)) rfl ?_
        refine ax_goto (x := 67) rfl ?_
        refine ax_load (q := 68) rfl rfl rfl rfl rfl ?_
        refine ax_const (q := 69) (v := am_I 4) rfl rfl rfl ?_
        refine ax_icmp_ge (q := 72) (x := 89) rfl rfl (fun h => absurd h (by omega)) (fun h69 => ?_)
        refine ax_load (q := 73) rfl rfl rfl rfl rfl ?_
        refine ax_getf (q := 76) (v := am_R 161) rfl rfl (rfl) ?_
        refine ax_const (q := 77) (v := am_I 4) rfl rfl rfl ?_
        refine ax_load (q := 78) rfl rfl rfl rfl rfl ?_
        refine ax_imul (q := 79) (z := ((4 * k : Nat) : Int)) rfl rfl (am_we (by omega) (by omega) (by omega)) ?_
        refine ax_load (q := 80) rfl rfl rfl rfl rfl ?_
        refine ax_iadd (q := 81) (z := (((4 * k) + 3 : Nat) : Int)) rfl rfl (am_we (by omega) (by omega) (by omega)) ?_
        refine ax_const (q := 82) (v := am_I 0) rfl rfl rfl ?_
        refine bx_iast (q := 83) (k := (4 * k) + 3) rfl rfl (rfl) (by omega) (by omega) ?_
        refine ax_iinc (q := 86) (z' := ((4 : Nat) : Int)) (L' := [some (am_R 135), some (am_I ((k : Nat) : Int)), some (am_I ((4 : Nat) : Int)), none]) rfl rfl rfl rfl (am_we (by omega) (by omega) (by omega)) rfl ?_
        refine ax_goto (x := 67) rfl ?_
        refine ax_load (q := 68) rfl rfl rfl rfl rfl ?_
        refine ax_const (q := 69) (v := am_I 4) rfl rfl rfl ?_
        refine ax_icmp_ge (q := 72) (x := 89) rfl rfl (fun h69 => ?_) (fun h => absurd h (by omega))
        refine ax_const (q := 90) (v := am_I 0) rfl rfl rfl ?_
        refine ax_store (q := 91) (L' := [some (am_R 135), some (am_I ((k : Nat) : Int)), some (am_I 0), none]) rfl rfl rfl rfl rfl rfl ?_
        refine ax_load (q := 92) rfl rfl rfl rfl rfl ?_
        refine ax_getf (q := 95) (v := am_I (((am_sI (am_sI (am_sI (am_sI (am_sI (am_sI x3 159 (am_up (x3.1 159) k v)) 160 (am_up ((am_sI x3 159 (am_up (x3.1 159) k v)).1 160) k 0)) 161 (am_up ((am_sI (am_sI x3 159 (am_up (x3.1 159) k v)) 160 (am_up ((am_sI x3 159 (am_up (x3.1 159) k v)).1 160) k 0)).1 161) ((4 * k) + 0) 0)) 161 (am_up ((am_sI (am_sI (am_sI x3 159 (am_up (x3.1 159) k v)) 160 (am_up ((am_sI x3 159 (am_up (x3.1 159) k v)).1 160) k 0)) 161 (am_up ((am_sI (am_sI x3 159 (am_up (x3.1 159) k v)) 160 (am_up ((am_sI x3 159 (am_up (x3.1 159) k v)).1 160) k 0)).1 161) ((4 * k) + 0) 0)).1 161) ((4 * k) + 1) 0)) 161 (am_up ((am_sI (am_sI (am_sI (am_sI x3 159 (am_up (x3.1 159) k v)) 160 (am_up ((am_sI x3 159 (am_up (x3.1 159) k v)).1 160) k 0)) 161 (am_up ((am_sI (am_sI x3 159 (am_up (x3.1 159) k v)) 160 (am_up ((am_sI x3 159 (am_up (x3.1 159) k v)).1 160) k 0)).1 161) ((4 * k) + 0) 0)) 161 (am_up ((am_sI (am_sI (am_sI x3 159 (am_up (x3.1 159) k v)) 160 (am_up ((am_sI x3 159 (am_up (x3.1 159) k v)).1 160) k 0)) 161 (am_up ((am_sI (am_sI x3 159 (am_up (x3.1 159) k v)) 160 (am_up ((am_sI x3 159 (am_up (x3.1 159) k v)).1 160) k 0)).1 161) ((4 * k) + 0) 0)).1 161) ((4 * k) + 1) 0)).1 161) ((4 * k) + 2) 0)) 161 (am_up ((am_sI (am_sI (am_sI (am_sI (am_sI x3 159 (am_up (x3.1 159) k v)) 160 (am_up ((am_sI x3 159 (am_up (x3.1 159) k v)).1 160) k 0)) 161 (am_up ((am_sI (am_sI x3 159 (am_up (x3.1 159) k v)) 160 (am_up ((am_sI x3 159 (am_up (x3.1 159) k v)).1 160) k 0)).1 161) ((4 * k) + 0) 0)) 161 (am_up ((am_sI (am_sI (am_sI x3 159 (am_up (x3.1 159) k v)) 160 (am_up ((am_sI x3 159 (am_up (x3.1 159) k v)).1 160) k 0)) 161 (am_up ((am_sI (am_sI x3 159 (am_up (x3.1 159) k v)) 160 (am_up ((am_sI x3 159 (am_up (x3.1 159) k v)).1 160) k 0)).1 161) ((4 * k) + 0) 0)).1 161) ((4 * k) + 1) 0)) 161 (am_up ((am_sI (am_sI (am_sI (am_sI x3 159 (am_up (x3.1 159) k v)) 160 (am_up ((am_sI x3 159 (am_up (x3.1 159) k v)).1 160) k 0)) 161 (am_up ((am_sI (am_sI x3 159 (am_up (x3.1 159) k v)) 160 (am_up ((am_sI x3 159 (am_up (x3.1 159) k v)).1 160) k 0)).1 161) ((4 * k) + 0) 0)) 161 (am_up ((am_sI (am_sI (am_sI x3 159 (am_up (x3.1 159) k v)) 160 (am_up ((am_sI x3 159 (am_up (x3.1 159) k v)).1 160) k 0)) 161 (am_up ((am_sI (am_sI x3 159 (am_up (x3.1 159) k v)) 160 (am_up ((am_sI x3 159 (am_up (x3.1 159) k v)).1 160) k 0)).1 161) ((4 * k) + 0) 0)).1 161) ((4 * k) + 1) 0)).1 161) ((4 * k) + 2) 0)).1 161) ((4 * k) + 3) 0))).1 135 2)) rfl rfl (rfl) ?_
        refine ax_if_ne (q := 98) (x := 175) rfl rfl (fun h95 => ?_) (fun h => absurd h (ne_p (b_sI (by decide) (b_sI (by decide) (b_sI (by decide) (b_sI (by decide) (b_sI (by decide) (b_sI (by decide) hbad))))))))
        refine ax_load (q := 176) rfl rfl rfl rfl rfl ?_
        refine ax_getf (q := 179) (v := am_I (((am_sI (am_sI (am_sI (am_sI (am_sI (am_sI x3 159 (am_up (x3.1 159) k v)) 160 (am_up ((am_sI x3 159 (am_up (x3.1 159) k v)).1 160) k 0)) 161 (am_up ((am_sI (am_sI x3 159 (am_up (x3.1 159) k v)) 160 (am_up ((am_sI x3 159 (am_up (x3.1 159) k v)).1 160) k 0)).1 161) ((4 * k) + 0) 0)) 161 (am_up ((am_sI (am_sI (am_sI x3 159 (am_up (x3.1 159) k v)) 160 (am_up ((am_sI x3 159 (am_up (x3.1 159) k v)).1 160) k 0)) 161 (am_up ((am_sI (am_sI x3 159 (am_up (x3.1 159) k v)) 160 (am_up ((am_sI x3 159 (am_up (x3.1 159) k v)).1 160) k 0)).1 161) ((4 * k) + 0) 0)).1 161) ((4 * k) + 1) 0)) 161 (am_up ((am_sI (am_sI (am_sI (am_sI x3 159 (am_up (x3.1 159) k v)) 160 (am_up ((am_sI x3 159 (am_up (x3.1 159) k v)).1 160) k 0)) 161 (am_up ((am_sI (am_sI x3 159 (am_up (x3.1 159) k v)) 160 (am_up ((am_sI x3 159 (am_up (x3.1 159) k v)).1 160) k 0)).1 161) ((4 * k) + 0) 0)) 161 (am_up ((am_sI (am_sI (am_sI x3 159 (am_up (x3.1 159) k v)) 160 (am_up ((am_sI x3 159 (am_up (x3.1 159) k v)).1 160) k 0)) 161 (am_up ((am_sI (am_sI x3 159 (am_up (x3.1 159) k v)) 160 (am_up ((am_sI x3 159 (am_up (x3.1 159) k v)).1 160) k 0)).1 161) ((4 * k) + 0) 0)).1 161) ((4 * k) + 1) 0)).1 161) ((4 * k) + 2) 0)) 161 (am_up ((am_sI (am_sI (am_sI (am_sI (am_sI x3 159 (am_up (x3.1 159) k v)) 160 (am_up ((am_sI x3 159 (am_up (x3.1 159) k v)).1 160) k 0)) 161 (am_up ((am_sI (am_sI x3 159 (am_up (x3.1 159) k v)) 160 (am_up ((am_sI x3 159 (am_up (x3.1 159) k v)).1 160) k 0)).1 161) ((4 * k) + 0) 0)) 161 (am_up ((am_sI (am_sI (am_sI x3 159 (am_up (x3.1 159) k v)) 160 (am_up ((am_sI x3 159 (am_up (x3.1 159) k v)).1 160) k 0)) 161 (am_up ((am_sI (am_sI x3 159 (am_up (x3.1 159) k v)) 160 (am_up ((am_sI x3 159 (am_up (x3.1 159) k v)).1 160) k 0)).1 161) ((4 * k) + 0) 0)).1 161) ((4 * k) + 1) 0)) 161 (am_up ((am_sI (am_sI (am_sI (am_sI x3 159 (am_up (x3.1 159) k v)) 160 (am_up ((am_sI x3 159 (am_up (x3.1 159) k v)).1 160) k 0)) 161 (am_up ((am_sI (am_sI x3 159 (am_up (x3.1 159) k v)) 160 (am_up ((am_sI x3 159 (am_up (x3.1 159) k v)).1 160) k 0)).1 161) ((4 * k) + 0) 0)) 161 (am_up ((am_sI (am_sI (am_sI x3 159 (am_up (x3.1 159) k v)) 160 (am_up ((am_sI x3 159 (am_up (x3.1 159) k v)).1 160) k 0)) 161 (am_up ((am_sI (am_sI x3 159 (am_up (x3.1 159) k v)) 160 (am_up ((am_sI x3 159 (am_up (x3.1 159) k v)).1 160) k 0)).1 161) ((4 * k) + 0) 0)).1 161) ((4 * k) + 1) 0)).1 161) ((4 * k) + 2) 0)).1 161) ((4 * k) + 3) 0))).1 135 2)) rfl rfl (rfl) ?_
        refine ax_if_ne (q := 182) (x := 192) rfl rfl (fun h179 => ?_) (fun h => absurd h (ne_p (b_sI (by decide) (b_sI (by decide) (b_sI (by decide) (b_sI (by decide) (b_sI (by decide) (b_sI (by decide) hbad))))))))
        refine ax_ret (r := none) rfl rfl ?_
        exact hQ.1 _ hres _ (fp_sI (fp_sI (fp_sI (fp_sI (fp_sI (fp_sI hfx (by decide) (by decide)) (by decide) (by decide)) (by decide) (by decide)) (by decide) (by decide)) (by decide) (by decide)) (by decide) (by decide)) h0 (F_sI (by decide) (F_sI (by decide) (F_sI (by decide) (F_sI (by decide) (F_sI (by decide) (F_sI (by decide) hF))))))
      · obtain ⟨rfl, A, rfl, hA⟩ := old_in e3
        have hf3 : RF_ σ σ3 := RF_.tr hf2 hk3 (by decide) (by decide) (by decide)
        have hR3 : RS_ (du_ D 137 (15 + k) (tkw_ tp n (nxp_ tp n p))) σ3 := RS_.tok hR2 hk3 (by decide)
        refine bx_iast (q := 38) (k := k) rfl rfl (rfl) (by omega) (by omega) ?_
        refine ax_load (q := 39) rfl rfl rfl rfl rfl ?_
        refine ax_getf (q := 42) (v := am_I 0) rfl rfl (am_fg rfl (f_sI (by decide) h23)) ?_
        refine ax_if_ne (q := 45) (x := 49) rfl rfl (fun h => absurd h (by omega)) (fun h42 => ?_)
        refine ax_load (q := 46) rfl rfl rfl rfl rfl ?_
        refine ax_callv (q := 49) rfl rfl rfl rfl rfl rfl ?_
        refine m_tokenN (by omega) (PS_sI hP3 (by decide) (by decide)) (fun σ4 hk4 hP4 => ?_)
        have hf4 : RF_ σ σ4 := RF_.tr (fp_sI hf3 (by decide) (by decide)) hk4 (by decide) (by decide) (by decide)
        have hR4 : RS_ (du_ (du_ D 137 (15 + k) (tkw_ tp n (nxp_ tp n p))) 159 k ((A : Nat) : Int)) σ4 := RS_.tok (RS_.sa hR3 (by decide)) hk4 (by decide)
        have h24 : σ4.1 135 2 = 0 := (hk4.2.1 2 (by decide)).trans (f_sI (by decide) h23)
        refine ax_load (q := 50) rfl rfl rfl rfl rfl ?_
        refine ax_getf (q := 53) (v := am_R 160) rfl rfl (rfl) ?_
        refine ax_load (q := 54) rfl rfl rfl rfl rfl ?_
        refine ax_load (q := 55) rfl rfl rfl rfl rfl ?_
        refine ax_const (q := 58) (v := am_J 6383461) rfl rfl rfl ?_
        refine ax_const (q := 59) (v := am_I 0) rfl rfl rfl ?_
        refine ax_const (q := 61) (v := am_I 39) rfl rfl rfl ?_
        refine ax_callv (q := 64) rfl rfl rfl rfl rfl rfl ?_
        refine r_told (by omega) hP4 h24 ⟨fun e he x5 v hk5 h0 hF => ?_, fun v5 p5 e5 σ5 hk5 h25 hP5 => ?_⟩
        · have hbad := FT_pos hF h0
          have hfx : RF_ σ x5 := RF_.tr hf4 hk5 (by decide) (by decide) (by decide)
          have hres : per_ tp n D k nS nR p = Sum.inl e := by simp only [per_, sb_, e1, e2, e3, he]
          have hk46x5 : x5.1 135 46 = (k : Int) := (hk5.2.1 46 (by decide)).trans ((hR4.2.1 46 (by decide)).trans (by simp [du_, am_up, hk]))
          have hk45x5 : x5.1 135 45 = (nR : Int) := (hk5.2.1 45 (by decide)).trans ((hR4.2.1 45 (by decide)).trans (by simp [du_, am_up, hRR]))
          refine bx_iast (q := 65) (k := k) rfl rfl (rfl) (by omega) (by omega) ?_
          refine ax_const (q := 66) (v := am_I 0) rfl rfl rfl ?_
          refine ax_store (q := 67) (L' := [some (am_R 135), some (am_I ((k : Nat) : Int)), some (am_I 0), none]) rfl rfl rfl rfl rfl rfl ?_
          refine ax_load (q := 68) rfl rfl rfl rfl rfl ?_
          refine ax_const (q := 69) (v := am_I 4) rfl rfl rfl ?_
          refine ax_icmp_ge (q := 72) (x := 89) rfl rfl (fun h => absurd h (by omega)) (fun h69 => ?_)
          refine ax_load (q := 73) rfl rfl rfl rfl rfl ?_
          refine ax_getf (q := 76) (v := am_R 161) rfl rfl (rfl) ?_
          refine ax_const (q := 77) (v := am_I 4) rfl rfl rfl ?_
          refine ax_load (q := 78) rfl rfl rfl rfl rfl ?_
          refine ax_imul (q := 79) (z := ((4 * k : Nat) : Int)) rfl rfl (am_we (by omega) (by omega) (by omega)) ?_
          refine ax_load (q := 80) rfl rfl rfl rfl rfl ?_
          refine ax_iadd (q := 81) (z := (((4 * k) + 0 : Nat) : Int)) rfl rfl (am_we (by omega) (by omega) (by omega)) ?_
          refine ax_const (q := 82) (v := am_I 0) rfl rfl rfl ?_
          refine bx_iast (q := 83) (k := (4 * k) + 0) rfl rfl (rfl) (by omega) (by omega) ?_
          refine ax_iinc (q := 86) (z' := ((1 : Nat) : Int)) (L' := [some (am_R 135), some (am_I ((k : Nat) : Int)), some (am_I ((1 : Nat) : Int)), none]) rfl rfl rfl rfl (am_we (by omega) (by omega) (by omega)) rfl ?_
          refine ax_goto (x := 67) rfl ?_
          refine ax_load (q := 68) rfl rfl rfl rfl rfl ?_
          refine ax_const (q := 69) (v := am_I 4) rfl rfl rfl ?_
          refine ax_icmp_ge (q := 72) (x := 89) rfl rfl (fun h => absurd h (by omega)) (fun h69 => ?_)
          refine ax_load (q := 73) rfl rfl rfl rfl rfl ?_
          refine ax_getf (q := 76) (v := am_R 161) rfl rfl (rfl) ?_
          refine ax_const (q := 77) (v := am_I 4) rfl rfl rfl ?_
          refine ax_load (q := 78) rfl rfl rfl rfl rfl ?_
          refine ax_imul (q := 79) (z := ((4 * k : Nat) : Int)) rfl rfl (am_we (by omega) (by omega) (by omega)) ?_
          refine ax_load (q := 80) rfl rfl rfl rfl rfl ?_
          refine ax_iadd (q := 81) (z := (((4 * k) + 1 : Nat) : Int)) rfl rfl (am_we (by omega) (by omega) (by omega)) ?_
          refine ax_const (q := 82) (v := am_I 0) rfl rfl rfl ?_
          refine bx_iast (q := 83) (k := (4 * k) + 1) rfl rfl (rfl) (by omega) (by omega) ?_
          refine ax_iinc (q := 86) (z' := ((2 : Nat) : Int)) (L' := [some (am_R 135), some (am_I ((k : Nat) : Int)), some (am_I ((2 : Nat) : Int)), none]) rfl rfl rfl rfl (am_we (by omega) (by omega) (by omega)) rfl ?_
          refine ax_goto (x := 67) rfl ?_
          refine ax_load (q := 68) rfl rfl rfl rfl rfl ?_
          refine ax_const (q := 69) (v := am_I 4) rfl rfl rfl ?_
          refine ax_icmp_ge (q := 72) (x := 89) rfl rfl (fun h => absurd h (by omega)) (fun h69 => ?_)
          refine ax_load (q := 73) rfl rfl rfl rfl rfl ?_
          refine ax_getf (q := 76) (v := am_R 161) rfl rfl (rfl) ?_
          refine ax_const (q := 77) (v := am_I 4) rfl rfl rfl ?_
          refine ax_load (q := 78) rfl rfl rfl rfl rfl ?_
          refine ax_imul (q := 79) (z := ((4 * k : Nat) : Int)) rfl rfl (am_we (by omega) (by omega) (by omega)) ?_
          refine ax_load (q := 80) rfl rfl rfl rfl rfl ?_
          refine ax_iadd (q := 81) (z := (((4 * k) + 2 : Nat) : Int)) rfl rfl (am_we (by omega) (by omega) (by omega)) ?_
          refine ax_const (q := 82) (v := am_I 0) rfl rfl rfl ?_
          refine bx_iast (q := 83) (k := (4 * k) + 2) rfl rfl (rfl) (by omega) (by omega) ?_
          refine ax_iinc (q := 86) (z' := ((3 : Nat) : Int)) (L' := [some (am_R 135), some (am_I ((k : Nat) : Int)), some (am_I ((3 : Nat) : Int)), none]) rfl rfl rfl rfl (am_we (by omega) (by omega) (by omega)) rfl ?_
          refine ax_goto (x := 67) rfl ?_
          refine ax_load (q := 68) rfl rfl rfl rfl rfl ?_
          refine ax_const (q := 69) (v := am_I 4) rfl rfl rfl ?_
          refine ax_icmp_ge (q := 72) (x := 89) rfl rfl (fun h => absurd h (by omega)) (fun h69 => ?_)
          refine ax_load (q := 73) rfl rfl rfl rfl rfl ?_
          refine ax_getf (q := 76) (v := am_R 161) rfl rfl (rfl) ?_
          refine ax_const (q := 77) (v := am_I 4) rfl rfl rfl ?_
          refine ax_load (q := 78) rfl rfl rfl rfl rfl ?_
          refine ax_imul (q := 79) (z := ((4 * k : Nat) : Int)) rfl rfl (am_we (by omega) (by omega) (by omega)) ?_
          refine ax_load (q := 80) rfl rfl rfl rfl rfl ?_
          refine ax_iadd (q := 81) (z := (((4 * k) + 3 : Nat) : Int)) rfl rfl (am_we (by omega) (by omega) (by omega)) ?_
          refine ax_const (q := 82) (v := am_I 0) rfl rfl rfl ?_
          refine bx_iast (q := 83) (k := (4 * k) + 3) rfl rfl (rfl) (by omega) (by omega) ?_
          refine ax_iinc (q := 86) (z' := ((4 : Nat) : Int)) (L' := [some (am_R 135), some (am_I ((k : Nat) : Int)), some (am_I ((4 : Nat) : Int)), none]) rfl rfl rfl rfl (am_we (by omega) (by omega) (by omega)) rfl ?_
          refine ax_goto (x := 67) rfl ?_
          refine ax_load (q := 68) rfl rfl rfl rfl rfl ?_
          refine ax_const (q := 69) (v := am_I 4) rfl rfl rfl ?_
          refine ax_icmp_ge (q := 72) (x := 89) rfl rfl (fun h69 => ?_) (fun h => absurd h (by omega))
          refine ax_const (q := 90) (v := am_I 0) rfl rfl rfl ?_
          refine ax_store (q := 91) (L' := [some (am_R 135), some (am_I ((k : Nat) : Int)), some (am_I 0), none]) rfl rfl rfl rfl rfl rfl ?_
          refine ax_load (q := 92) rfl rfl rfl rfl rfl ?_
          refine ax_getf (q := 95) (v := am_I (((am_sI (am_sI (am_sI (am_sI (am_sI x5 160 (am_up (x5.1 160) k v)) 161 (am_up ((am_sI x5 160 (am_up (x5.1 160) k v)).1 161) ((4 * k) + 0) 0)) 161 (am_up ((am_sI (am_sI x5 160 (am_up (x5.1 160) k v)) 161 (am_up ((am_sI x5 160 (am_up (x5.1 160) k v)).1 161) ((4 * k) + 0) 0)).1 161) ((4 * k) + 1) 0)) 161 (am_up ((am_sI (am_sI (am_sI x5 160 (am_up (x5.1 160) k v)) 161 (am_up ((am_sI x5 160 (am_up (x5.1 160) k v)).1 161) ((4 * k) + 0) 0)) 161 (am_up ((am_sI (am_sI x5 160 (am_up (x5.1 160) k v)) 161 (am_up ((am_sI x5 160 (am_up (x5.1 160) k v)).1 161) ((4 * k) + 0) 0)).1 161) ((4 * k) + 1) 0)).1 161) ((4 * k) + 2) 0)) 161 (am_up ((am_sI (am_sI (am_sI (am_sI x5 160 (am_up (x5.1 160) k v)) 161 (am_up ((am_sI x5 160 (am_up (x5.1 160) k v)).1 161) ((4 * k) + 0) 0)) 161 (am_up ((am_sI (am_sI x5 160 (am_up (x5.1 160) k v)) 161 (am_up ((am_sI x5 160 (am_up (x5.1 160) k v)).1 161) ((4 * k) + 0) 0)).1 161) ((4 * k) + 1) 0)) 161 (am_up ((am_sI (am_sI (am_sI x5 160 (am_up (x5.1 160) k v)) 161 (am_up ((am_sI x5 160 (am_up (x5.1 160) k v)).1 161) ((4 * k) + 0) 0)) 161 (am_up ((am_sI (am_sI x5 160 (am_up (x5.1 160) k v)) 161 (am_up ((am_sI x5 160 (am_up (x5.1 160) k v)).1 161) ((4 * k) + 0) 0)).1 161) ((4 * k) + 1) 0)).1 161) ((4 * k) + 2) 0)).1 161) ((4 * k) + 3) 0))).1 135 2)) rfl rfl (rfl) ?_
          refine ax_if_ne (q := 98) (x := 175) rfl rfl (fun h95 => ?_) (fun h => absurd h (ne_p (b_sI (by decide) (b_sI (by decide) (b_sI (by decide) (b_sI (by decide) (b_sI (by decide) hbad)))))))
          refine ax_load (q := 176) rfl rfl rfl rfl rfl ?_
          refine ax_getf (q := 179) (v := am_I (((am_sI (am_sI (am_sI (am_sI (am_sI x5 160 (am_up (x5.1 160) k v)) 161 (am_up ((am_sI x5 160 (am_up (x5.1 160) k v)).1 161) ((4 * k) + 0) 0)) 161 (am_up ((am_sI (am_sI x5 160 (am_up (x5.1 160) k v)) 161 (am_up ((am_sI x5 160 (am_up (x5.1 160) k v)).1 161) ((4 * k) + 0) 0)).1 161) ((4 * k) + 1) 0)) 161 (am_up ((am_sI (am_sI (am_sI x5 160 (am_up (x5.1 160) k v)) 161 (am_up ((am_sI x5 160 (am_up (x5.1 160) k v)).1 161) ((4 * k) + 0) 0)) 161 (am_up ((am_sI (am_sI x5 160 (am_up (x5.1 160) k v)) 161 (am_up ((am_sI x5 160 (am_up (x5.1 160) k v)).1 161) ((4 * k) + 0) 0)).1 161) ((4 * k) + 1) 0)).1 161) ((4 * k) + 2) 0)) 161 (am_up ((am_sI (am_sI (am_sI (am_sI x5 160 (am_up (x5.1 160) k v)) 161 (am_up ((am_sI x5 160 (am_up (x5.1 160) k v)).1 161) ((4 * k) + 0) 0)) 161 (am_up ((am_sI (am_sI x5 160 (am_up (x5.1 160) k v)) 161 (am_up ((am_sI x5 160 (am_up (x5.1 160) k v)).1 161) ((4 * k) + 0) 0)).1 161) ((4 * k) + 1) 0)) 161 (am_up ((am_sI (am_sI (am_sI x5 160 (am_up (x5.1 160) k v)) 161 (am_up ((am_sI x5 160 (am_up (x5.1 160) k v)).1 161) ((4 * k) + 0) 0)) 161 (am_up ((am_sI (am_sI x5 160 (am_up (x5.1 160) k v)) 161 (am_up ((am_sI x5 160 (am_up (x5.1 160) k v)).1 161) ((4 * k) + 0) 0)).1 161) ((4 * k) + 1) 0)).1 161) ((4 * k) + 2) 0)).1 161) ((4 * k) + 3) 0))).1 135 2)) rfl rfl (rfl) ?_
          refine ax_if_ne (q := 182) (x := 192) rfl rfl (fun h179 => ?_) (fun h => absurd h (ne_p (b_sI (by decide) (b_sI (by decide) (b_sI (by decide) (b_sI (by decide) (b_sI (by decide) hbad)))))))
          refine ax_ret (r := none) rfl rfl ?_
          exact hQ.1 _ hres _ (fp_sI (fp_sI (fp_sI (fp_sI (fp_sI hfx (by decide) (by decide)) (by decide) (by decide)) (by decide) (by decide)) (by decide) (by decide)) (by decide) (by decide)) h0 (F_sI (by decide) (F_sI (by decide) (F_sI (by decide) (F_sI (by decide) (F_sI (by decide) hF)))))
        · have hf5 : RF_ σ σ5 := RF_.tr hf4 hk5 (by decide) (by decide) (by decide)
          have hR5 : RS_ (du_ (du_ D 137 (15 + k) (tkw_ tp n (nxp_ tp n p))) 159 k ((A : Nat) : Int)) σ5 := RS_.tok hR4 hk5 (by decide)
          refine bx_iast (q := 65) (k := k) rfl rfl (rfl) (by omega) (by omega) ?_
          refine ax_const (q := 66) (v := am_I 0) rfl rfl rfl ?_
          refine ax_store (q := 67) (L' := [some (am_R 135), some (am_I ((k : Nat) : Int)), some (am_I 0), none]) rfl rfl rfl rfl rfl rfl ?_
          refine ax_load (q := 68) rfl rfl rfl rfl rfl ?_
          refine ax_const (q := 69) (v := am_I 4) rfl rfl rfl ?_
          refine ax_icmp_ge (q := 72) (x := 89) rfl rfl (fun h => absurd h (by omega)) (fun h69 => ?_)
          refine ax_load (q := 73) rfl rfl rfl rfl rfl ?_
          refine ax_getf (q := 76) (v := am_R 161) rfl rfl (rfl) ?_
          refine ax_const (q := 77) (v := am_I 4) rfl rfl rfl ?_
          refine ax_load (q := 78) rfl rfl rfl rfl rfl ?_
          refine ax_imul (q := 79) (z := ((4 * k : Nat) : Int)) rfl rfl (am_we (by omega) (by omega) (by omega)) ?_
          refine ax_load (q := 80) rfl rfl rfl rfl rfl ?_
          refine ax_iadd (q := 81) (z := (((4 * k) + 0 : Nat) : Int)) rfl rfl (am_we (by omega) (by omega) (by omega)) ?_
          refine ax_const (q := 82) (v := am_I 0) rfl rfl rfl ?_
          refine bx_iast (q := 83) (k := (4 * k) + 0) rfl rfl (rfl) (by omega) (by omega) ?_
          refine ax_iinc (q := 86) (z' := ((1 : Nat) : Int)) (L' := [some (am_R 135), some (am_I ((k : Nat) : Int)), some (am_I ((1 : Nat) : Int)), none]) rfl rfl rfl rfl (am_we (by omega) (by omega) (by omega)) rfl ?_
          refine ax_goto (x := 67) rfl ?_
          refine ax_load (q := 68) rfl rfl rfl rfl rfl ?_
          refine ax_const (q := 69) (v := am_I 4) rfl rfl rfl ?_
          refine ax_icmp_ge (q := 72) (x := 89) rfl rfl (fun h => absurd h (by omega)) (fun h69 => ?_)
          refine ax_load (q := 73) rfl rfl rfl rfl rfl ?_
          refine ax_getf (q := 76) (v := am_R 161) rfl rfl (rfl) ?_
          refine ax_const (q := 77) (v := am_I 4) rfl rfl rfl ?_
          refine ax_load (q := 78) rfl rfl rfl rfl rfl ?_
          refine ax_imul (q := 79) (z := ((4 * k : Nat) : Int)) rfl rfl (am_we (by omega) (by omega) (by omega)) ?_
          refine ax_load (q := 80) rfl rfl rfl rfl rfl ?_
          refine ax_iadd (q := 81) (z := (((4 * k) + 1 : Nat) : Int)) rfl rfl (am_we (by omega) (by omega) (by omega)) ?_
          refine ax_const (q := 82) (v := am_I 0) rfl rfl rfl ?_
          refine bx_iast (q := 83) (k := (4 * k) + 1) rfl rfl (rfl) (by omega) (by omega) ?_
          refine ax_iinc (q := 86) (z' := ((2 : Nat) : Int)) (L' := [some (am_R 135), some (am_I ((k : Nat) : Int)), some (am_I ((2 : Nat) : Int)), none]) rfl rfl rfl rfl (am_we (by omega) (by omega) (by omega)) rfl ?_
          refine ax_goto (x := 67) rfl ?_
          refine ax_load (q := 68) rfl rfl rfl rfl rfl ?_
          refine ax_const (q := 69) (v := am_I 4) rfl rfl rfl ?_
          refine ax_icmp_ge (q := 72) (x := 89) rfl rfl (fun h => absurd h (by omega)) (fun h69 => ?_)
          refine ax_load (q := 73) rfl rfl rfl rfl rfl ?_
          refine ax_getf (q := 76) (v := am_R 161) rfl rfl (rfl) ?_
          refine ax_const (q := 77) (v := am_I 4) rfl rfl rfl ?_
          refine ax_load (q := 78) rfl rfl rfl rfl rfl ?_
          refine ax_imul (q := 79) (z := ((4 * k : Nat) : Int)) rfl rfl (am_we (by omega) (by omega) (by omega)) ?_
          refine ax_load (q := 80) rfl rfl rfl rfl rfl ?_
          refine ax_iadd (q := 81) (z := (((4 * k) + 2 : Nat) : Int)) rfl rfl (am_we (by omega) (by omega) (by omega)) ?_
          refine ax_const (q := 82) (v := am_I 0) rfl rfl rfl ?_
          refine bx_iast (q := 83) (k := (4 * k) + 2) rfl rfl (rfl) (by omega) (by omega) ?_
          refine ax_iinc (q := 86) (z' := ((3 : Nat) : Int)) (L' := [some (am_R 135), some (am_I ((k : Nat) : Int)), some (am_I ((3 : Nat) : Int)), none]) rfl rfl rfl rfl (am_we (by omega) (by omega) (by omega)) rfl ?_
          refine ax_goto (x := 67) rfl ?_
          refine ax_load (q := 68) rfl rfl rfl rfl rfl ?_
          refine ax_const (q := 69) (v := am_I 4) rfl rfl rfl ?_
          refine ax_icmp_ge (q := 72) (x := 89) rfl rfl (fun h => absurd h (by omega)) (fun h69 => ?_)
          refine ax_load (q := 73) rfl rfl rfl rfl rfl ?_
          refine ax_getf (q := 76) (v := am_R 161) rfl rfl (rfl) ?_
          refine ax_const (q := 77) (v := am_I 4) rfl rfl rfl ?_
          refine ax_load (q := 78) rfl rfl rfl rfl rfl ?_
          refine ax_imul (q := 79) (z := ((4 * k : Nat) : Int)) rfl rfl (am_we (by omega) (by omega) (by omega)) ?_
          refine ax_load (q := 80) rfl rfl rfl rfl rfl ?_
          refine ax_iadd (q := 81) (z := (((4 * k) + 3 : Nat) : Int)) rfl rfl (am_we (by omega) (by omega) (by omega)) ?_
          refine ax_const (q := 82) (v := am_I 0) rfl rfl rfl ?_
          refine bx_iast (q := 83) (k := (4 * k) + 3) rfl rfl (rfl) (by omega) (by omega) ?_
          refine ax_iinc (q := 86) (z' := ((4 : Nat) : Int)) (L' := [some (am_R 135), some (am_I ((k : Nat) : Int)), some (am_I ((4 : Nat) : Int)), none]) rfl rfl rfl rfl (am_we (by omega) (by omega) (by omega)) rfl ?_
          refine ax_goto (x := 67) rfl ?_
          refine ax_load (q := 68) rfl rfl rfl rfl rfl ?_
          refine ax_const (q := 69) (v := am_I 4) rfl rfl rfl ?_
          refine ax_icmp_ge (q := 72) (x := 89) rfl rfl (fun h69 => ?_) (fun h => absurd h (by omega))
          refine ax_const (q := 90) (v := am_I 0) rfl rfl rfl ?_
          refine ax_store (q := 91) (L' := [some (am_R 135), some (am_I ((k : Nat) : Int)), some (am_I 0), none]) rfl rfl rfl rfl rfl rfl ?_
          refine l_readPerson (by omega) hk6 hS4 5 _ _ 0 _ _ (PS_sI (PS_sI (PS_sI (PS_sI (PS_sI hP5 (by decide) (by decide)) (by decide) (by decide)) (by decide) (by decide)) (by decide) (by decide)) (by decide) (by decide)) (f_sI (by decide) (f_sI (by decide) (f_sI (by decide) (f_sI (by decide) (f_sI (by decide) h25))))) (RS_.sa (RS_.sa (RS_.sa (RS_.sa (RS_.sa hR5 (by decide)) (by decide)) (by decide)) (by decide)) (by decide)) hS (fp_sI (fp_sI (fp_sI (fp_sI (fp_sI hf5 (by decide) (by decide)) (by decide) (by decide)) (by decide) (by decide)) (by decide) (by decide)) (by decide) (by decide)) (by decide) (by decide) (fun e he h' x x6 hf6 h0 hF => ?_) (fun D6 p6 e6 h' x σ6 hf6 h26 hP6 hR6 => ?_)
          · have hbad := FT_pos hF h0
            have hres : per_ tp n D k nS nR p = Sum.inl e := by simp only [per_, sb_, e1, e2, e3, e5, he]
            refine ax_load (q := 176) rfl rfl rfl rfl rfl ?_
            refine ax_getf (q := 179) (v := am_I ((x6).1 135 2)) rfl rfl (rfl) ?_
            refine ax_if_ne (q := 182) (x := 192) rfl rfl (fun h179 => ?_) (fun h => absurd h (ne_p hbad))
            refine ax_ret (r := none) rfl rfl ?_
            exact hQ.1 _ hres _ hf6 h0 hF
          · have hk6b : D6 135 46 = (k : Int) := lev_46 _ _ _ _ _ e6 hk
            refine ax_load (q := 176) rfl rfl rfl rfl rfl ?_
            refine ax_getf (q := 179) (v := am_I 0) rfl rfl (am_fg rfl h26) ?_
            refine ax_if_ne (q := 182) (x := 192) rfl rfl (fun h => absurd h (by omega)) (fun h179 => ?_)
            refine ax_load (q := 183) rfl rfl rfl rfl rfl ?_
            refine ax_dup (q := 184) rfl rfl rfl ?_
            refine ax_getf (q := 187) (v := am_I ((k : Nat) : Int)) rfl rfl (am_fg rfl ((hR6.2.1 46 (by decide)).trans hk6b)) ?_
            refine ax_const (q := 188) (v := am_I 1) rfl rfl rfl ?_
            refine ax_iadd (q := 189) (z := ((k + 1 : Nat) : Int)) rfl rfl (am_we (by omega) (by omega) (by omega)) ?_
            refine ax_putf (q := 192) rfl rfl rfl ?_
            refine ax_ret (r := none) rfl rfl ?_
            exact hQ.2 _ _ (by simp only [per_, sb_, e1, e2, e3, e5, e6]) _ (fp_s5 hf6 (by decide)) (f_s5 (by decide) h26) (PS_s5 hP6 (by decide)) (RS_.s5 hR6)

