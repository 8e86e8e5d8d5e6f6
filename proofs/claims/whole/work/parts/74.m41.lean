theorem TE_.tok {tp : Nat → Int} {n : Nat} {D : sp_T} {p p' : Nat} {os : List Int} {u : Nat} {st : List (Int × Int)} {σ σ' : am_S} (h : TE_ tp n D p os u st σ) (hf : fp_ [] [4, 6, 7, 8, 9] [] σ σ') (hP : PS_ tp n p' σ') : TE_ tp n D p' os u st σ' :=
  ⟨hP, (hf.2.1 2 (by decide)).trans h.2.1, (hf.2.1 19 (by decide)).trans h.2.2.1, by rw [hf.1 142 (by decide) (by decide)]; exact h.2.2.2.1, (hf.2.1 23 (by decide)).trans h.2.2.2.2.1, (hf.2.1 22 (by decide)).trans h.2.2.2.2.2.1, RS_.tok h.2.2.2.2.2.2 hf (by decide)⟩
theorem TE_.cl {tp : Nat → Int} {n : Nat} {D : sp_T} {p : Nat} {os : List Int} {u : Nat} {st : List (Int × Int)} {σ σ' : am_S} {t : Int} (h : TE_ tp n D p os u st σ) (hc : CL_ σ σ' st.length (cz_ (σ.1 142) t os.length) (((dpl_ os : Nat) : Int) - (cq_ (σ.1 142) t os.length : Nat)) (ce_ (σ.1 142) t os.length)) : TE_ tp n D p (czl_ t os) u (st ++ cel_ t os) σ' := by
  obtain ⟨hP, h2, h19, hos, h23, h22, hR⟩ := h
  obtain ⟨hf, c17, c19, c23, c8, c9⟩ := hc
  have e1 := cz_ol (σ.1 142) t os.length
  have e2 := ce_ol (σ.1 142) t os.length
  have e3 := cq_ol (σ.1 142) t os.length
  rw [hos] at e1 e2 e3
  have e4 : cz_ (σ.1 142) t os.length = (czl_ t os).length := by rw [← e1.1, ol_len]
  have hP' : PS_ tp n p σ' := by
    obtain ⟨⟨a1, a2, a3, a4, a5⟩, b1, b2, b3, b4, b5⟩ := hP
    exact ⟨⟨(hf.2.1 4 (by decide)).trans a1, (hf.2.1 6 (by decide)).trans a2, (hf.2.1 7 (by decide)).trans a3, (hf.2.1 8 (by decide)).trans a4, (hf.2.2.2.1 9 (by decide)).trans a5⟩, (hf.1 136 (by decide) (by decide)).trans b1, (hf.2.1 5 (by decide)).trans b2, b3, b4, (hf.2.1 3 (by decide)).trans b5⟩
  refine ⟨hP', (hf.2.1 2 (by decide)).trans h2, by rw [c19, e4], by rw [hf.1 142 (by decide) (by decide), ← e4]; exact e1.1, by rw [c23]; omega, (hf.2.1 22 (by decide)).trans h22, ?_⟩
  rw [e2] at c17 c8 c9
  exact RS_.dt hR hf (by decide) c17 c8 c9
theorem TE_.pop {tp : Nat → Int} {n : Nat} {D : sp_T} {p : Nat} {x : Int} {r : List Int} {u : Nat} {st : List (Int × Int)} {σ : am_S} {y z : Int} (h : TE_ tp n D p (x :: r) u st σ) (hy : y = ((r.length : Nat) : Int)) (hz : z = ((dpl_ r : Nat) : Int)) : TE_ tp n D p r u st (am_sI (am_sI σ 135 (am_up (σ.1 135) 19 y)) 135 (am_up ((am_sI σ 135 (am_up (σ.1 135) 19 y)).1 135) 23 z)) := by
  obtain ⟨hP, h2, h19, hos, h23, h22, hR⟩ := h
  have e : fp_ [] [19, 23] [] σ (am_sI (am_sI σ 135 (am_up (σ.1 135) 19 y)) 135 (am_up ((am_sI σ 135 (am_up (σ.1 135) 19 y)).1 135) 23 z)) := fp_s5 (fp_s5 (fp_rf _ _ _ _) (by decide)) (by decide)
  refine ⟨PS_s5 (PS_s5 hP (by decide)) (by decide), (e.2.1 2 (by decide)).trans h2, ?_, ?_, ?_, (e.2.1 22 (by decide)).trans h22, RS_.fr hR e (by decide) (by decide)⟩
  · rw [sI_at, am_up_ne (by decide), sI_at, am_up_same, hy]
  · rw [e.1 142 (by decide) (by decide)]
    have := hos
    simp only [List.length_cons, ol_] at this
    injection this
  · rw [sI_at, am_up_same, hz]
theorem TE_.push {tp : Nat → Int} {n : Nat} {D : sp_T} {p : Nat} {x : Int} {r : List Int} {u : Nat} {st : List (Int × Int)} {σ : am_S} (h : TE_ tp n D p r u st σ) (h0 : x ≠ 20) (h1 : x ≠ 21) : TE_ tp n D p (x :: r) u st (am_sI (am_sI σ 142 (am_up (σ.1 142) r.length x)) 135 (am_up ((am_sI σ 142 (am_up (σ.1 142) r.length x)).1 135) 19 ((r.length + 1 : Nat) : Int))) := by
  obtain ⟨hP, h2, h19, hos, h23, h22, hR⟩ := h
  have e : fp_ [142] [19] [] σ (am_sI (am_sI σ 142 (am_up (σ.1 142) r.length x)) 135 (am_up ((am_sI σ 142 (am_up (σ.1 142) r.length x)).1 135) 19 ((r.length + 1 : Nat) : Int))) := fp_s5 (fp_sI (fp_rf _ _ _ _) (by decide) (by decide)) (by decide)
  refine ⟨PS_s5 (PS_sI hP (by decide) (by decide)) (by decide), (e.2.1 2 (by decide)).trans h2, ?_, ?_, ?_, (e.2.1 22 (by decide)).trans h22, RS_.fr hR e (by decide) (by decide)⟩
  · rw [sI_at, am_up_same]; rfl
  · rw [sI_ne (by decide), sI_at]
    show ol_ _ (r.length + 1) = _
    rw [ol_pu, hos]
  · rw [e.2.1 23 (by decide), h23]
    show _ = ((dpl_ r + (if x = 20 ∨ x = 21 then 1 else 0) : Nat) : Int)
    rw [if_neg (by omega)]
    rfl
theorem sg_ne (so w : Int) : sgh_ so w ≠ 20 ∧ sgh_ so w ≠ 21 := by
  unfold sgh_
  (repeat' split) <;> omega
/-- a token that is one moves on -/
theorem nxp_lt {tp : Nat → Int} {n p : Nat} (hp : p ≤ n) (h0 : tks_ tp n p ≠ 0) (h3 : tks_ tp n p ≠ 3) : p < nxp_ tp n p := by
  have hr : 0 ≤ hr_ tp n p := by
    by_cases q : hr_ tp n p < 0
    · exact absurd (by unfold tks_; rw [if_pos q]) h0
    · omega
  have hl : 1 ≤ tkl_ tp n p := by
    have hpn : p < n := by
      unfold hr_ at hr
      split at hr
      · assumption
      · omega
    unfold tkl_
    rw [if_neg (by omega)]
    have one : ∀ f : Int → Bool, f (hr_ tp n p) = true → 1 ≤ rl_ f tp n (n - p) p := by
      intro f hf
      obtain ⟨m, hm⟩ : ∃ m, n - p = m + 1 := ⟨n - p - 1, by omega⟩
      rw [hm, rl_]
      rw [if_pos hf]
      omega
    split
    · next q => exact one _ q
    · split
      · next q => exact one _ q
      · omega
  have h1 := skp_le tp n (n - tka_ tp n p) (tka_ tp n p)
  have h2 : tka_ tp n p = p + tkl_ tp n p := by unfold tka_; rw [if_neg h3]
  unfold nxp_
  omega

theorem r_unit {d : Nat} (hd : 5 ≤ d) {tp : Nat → Int} {n : Nat} {D : sp_T} {p : Nat} {os : List Int} {u : Nat} {st : List (Int × Int)} {σ σ0 : am_S} (hT : TE_ tp n D p os u st σ) (hf : RF_ σ0 σ) (hd7 : dpl_ os ≤ 7) (hu : u ≤ 30) (ho : os.length ≤ dpl_ os + u) (hs : st.length + os.length ≤ 10 * u + 1) {Q : Option am_V → am_S → Prop} (hN : ∀ e, un_ tp n (7 - dpl_ os) p os u = Sum.inl e → ∀ σ', RF_ σ0 σ' → 0 < e.1 → FT_ tp n e σ' → Q none σ') (hY : ∀ r, un_ tp n (7 - dpl_ os) p os u = Sum.inr r → ∀ σ', RF_ σ0 σ' → TE_ tp n D r.1 r.2.1 r.2.2.1 (st ++ [r.2.2.2]) σ' → AI_ r.2.1 r.2.2.1 (st ++ [r.2.2.2]) → Q none σ') : am_Ev d 167 [am_R 135] σ Q := by
  obtain ⟨d, rfl⟩ : ∃ e, d = e + 1 := ⟨d - 1, by omega⟩
  refine ev_in (m := 167) (c := k_X9_unit) (L := [some (am_R 135), none, none]) rfl rfl rfl rfl rfl rfl ?_
  refine ax_const (q := 1) (v := am_I 1) rfl rfl rfl ?_
  refine ax_store (q := 2) (L' := [some (am_R 135), some (am_I 1), none]) rfl rfl rfl rfl rfl rfl ?_
  exact l_unit (by omega) (7 - dpl_ os) p os u none σ hT hf (by omega) hu ho (by omega) hN hY

theorem sg_tk {so w : Int} (h : ¬ sgh_ so w = 0) : so ≠ 0 ∧ so ≠ 3 := by
  constructor
  · rintro rfl; exact h (by unfold sgh_; simp)
  · rintro rfl; exact h (by unfold sgh_; simp)
theorem un_le {tp : Nat → Int} {n : Nat} : ∀ (m p : Nat) (os : List Int) (u : Nat) {r : Nat × List Int × Nat × (Int × Int)}, un_ tp n m p os u = Sum.inr r → p ≤ n → p ≤ r.1 := by
  intro m
  induction m with
  | zero =>
    intro p os u r h hp
    have := (nxp_le (tp := tp) hp).1
    unfold un_ at h
    split at h
    · cases h
    · split at h
      · cases h
      · split at h
        · cases h
        · injection h with h; rw [← h]; exact this
  | succ m ih =>
    intro p os u r h hp
    have := (nxp_le (tp := tp) hp)
    unfold un_ at h
    split at h
    · have := ih _ _ _ h this.2; omega
    · split at h
      · split at h
        · cases h
        · have := ih _ _ _ h this.2; omega
      · split at h
        · cases h
        · injection h with h; rw [← h]; exact this.1

theorem l_readTeach {d : Nat} (hd : 6 ≤ d) {tp : Nat → Int} {n : Nat} {D : sp_T} {Q : Option am_V → am_S → Prop} {σ0 : am_S} : ∀ (k p : Nat) (os : List Int) (u : Nat) (st : List (Int × Int)) (x2 : Option am_V) (σ : am_S), TE_ tp n D p os u st σ → RF_ σ0 σ → AI_ os u st → n < p + k →
    (hN : ∀ e, ml_x tp n k p os u st = Sum.inl e → ∀ σ', RF_ σ0 σ' → 0 < e.1 → FT_ tp n e σ' → Q none σ') →
    (hY : ∀ r, ml_x tp n k p os u st = Sum.inr r → ∀ σ', RF_ σ0 σ' → σ'.1 135 2 = 0 → PS_ tp n r.1 σ' → RS_ (tq_ D r.2.1 r.2.2) σ' → Q none σ') →
    aW d 4 k_X9_readTeach Q 30 [some (am_R 135), some (am_I 1), x2] [] σ := by
  intro k
  induction k with
  | zero =>
    intro p os u st x2 σ hT hf hA hk hN hY
    have := hT.1.2.2.2.2.1
    exact absurd hk (by omega)
  | succ k ih =>
    intro p os u st x2 σ hT hf hA hk hN hY
    obtain ⟨hP, h02, hc, hos, hdp, hu, hR⟩ := id hT
    obtain ⟨a1, a2, a3, a4⟩ := hA
    have k6 := hP.1.2.1
    have k9 := hP.1.2.2.2.2
    have hpn := hP.2.2.2.2.1
    have h17 : σ.1 135 17 = ((st.length : Nat) : Int) := (hR.2.1 17 (by decide)).trans (tq_17 _ _ _)
    have hsn := sg_ne (tks_ tp n p) (tkw_ tp n p)
    refine ax_load (q := 31) rfl rfl rfl rfl rfl ?_
    refine ax_if_eq (q := 34) (x := 157) rfl rfl (fun h => absurd h (by omega)) (fun h31 => ?_)
    refine ax_load (q := 35) rfl rfl rfl rfl rfl ?_
    refine ax_getf (q := 38) (v := am_I 0) rfl rfl (am_fg rfl h02) ?_
    refine ax_if_ne (q := 41) (x := 157) rfl rfl (fun h => absurd h (by omega)) (fun h38 => ?_)
    refine ax_load (q := 42) rfl rfl rfl rfl rfl ?_
    refine ax_callv (q := 45) rfl rfl rfl rfl rfl rfl ?_
    refine m_signHere (by omega) ?_
    rw [k6, k9]
    show aW d 4 k_X9_readTeach Q 45 _ [am_I (sg2_ tp n p)] σ
    refine ax_store (q := 46) (L' := [some (am_R 135), some (am_I ((1 : Nat) : Int)), some (am_I (sg2_ tp n p))]) rfl rfl rfl rfl rfl rfl ?_
    refine ax_load (q := 47) rfl rfl rfl rfl rfl ?_
    refine ax_getf (q := 50) (v := am_I (tks_ tp n p)) rfl rfl (am_fg rfl k6) ?_
    refine ax_const (q := 52) (v := am_I 41) rfl rfl rfl ?_
    refine ax_icmp_ne (q := 55) (x := 94) rfl rfl (fun h52 => ?_) (fun h52 => ?_)
    · have hn41 : ¬ (tks_ tp n p = 41 ∧ hbl_ os = true) := fun q => h52 q.1
      refine ax_load (q := 95) rfl rfl rfl rfl rfl ?_
      refine ax_if_eq (q := 98) (x := 152) rfl rfl (fun h95 => ?_) (fun h95 => ?_)
      · have hnx : ¬ (sg2_ tp n p ≠ 0 ∧ ¬ (ti_ (sg2_ tp n p) = 4 ∧ hrll_ os = true)) := fun q => q.1 h95
        refine ax_const (q := 153) (v := am_I 0) rfl rfl rfl ?_
        refine ax_store (q := 154) (L' := [some (am_R 135), some (am_I 0), some (am_I (sg2_ tp n p))]) rfl rfl rfl rfl rfl rfl ?_
        refine ax_goto (x := 30) rfl ?_
        refine ax_load (q := 31) rfl rfl rfl rfl rfl ?_
        refine ax_if_eq (q := 34) (x := 157) rfl rfl (fun h31 => ?_) (fun h => absurd h (by omega))
        refine ax_load (q := 158) rfl rfl rfl rfl rfl ?_
        refine ax_getf (q := 161) (v := am_I 0) rfl rfl (am_fg rfl h02) ?_
        refine ax_if_ne (q := 164) (x := 176) rfl rfl (fun h => absurd h (by omega)) (fun h161 => ?_)
        refine ax_load (q := 165) rfl rfl rfl rfl rfl ?_
        refine ax_callv (q := 168) rfl rfl rfl rfl rfl rfl ?_
        refine m_hasBracket (by omega) rfl hc (by omega) ?_
        rw [hb_ol, hos]
        refine ax_if_eq (q := 171) (x := 176) rfl rfl (fun h168 => ?_) (fun h168 => ?_)
        · refine ax_load (q := 177) rfl rfl rfl rfl rfl ?_
          refine ax_getf (q := 180) (v := am_I 0) rfl rfl (am_fg rfl h02) ?_
          refine ax_if_ne (q := 183) (x := 188) rfl rfl (fun h => absurd h (by omega)) (fun h180 => ?_)
          refine ax_load (q := 184) rfl rfl rfl rfl rfl ?_
          refine ax_const (q := 185) (v := am_I 0) rfl rfl rfl ?_
          refine ax_callv (q := 188) rfl rfl rfl rfl rfl rfl ?_
          refine m_close (by omega) rfl hc h17 hdp (by omega) (by omega) (by omega) (by omega) (fun σ1 hcl => ?_)
          have hT1 := TE_.cl hT hcl
          have hfc : RF_ σ0 σ1 := RF_.tr hf hcl.1 (by decide) (by decide) (by decide)
          refine ax_ret (r := none) rfl rfl ?_
          exact hY (p, u, st ++ cel_ 0 os) (by rw [ml_x, if_neg hn41, if_neg hnx]; exact if_neg (by rw [it_0 h168]; decide)) _ hfc hT1.2.1 hT1.1 hT1.2.2.2.2.2.2
        · refine ax_load (q := 172) rfl rfl rfl rfl rfl ?_
          refine ax_const (q := 173) (v := am_I 2) rfl rfl rfl ?_
          refine ax_callv (q := 176) rfl rfl rfl rfl rfl rfl ?_
          refine m_wrong (by omega) ?_
          rw [if_neg (by rw [h02]; decide)]
          obtain ⟨x1, hx1⟩ : ∃ s, s = wr_ σ 2 := ⟨_, rfl⟩
          rw [← hx1]
          have hbad : 0 < x1.1 135 2 := by rw [hx1]; exact wr_2 σ (by decide)
          have hfx : RF_ σ0 x1 := by rw [hx1]; exact fp_wr hf (by decide) (by decide)
          have hF : FT_ tp n (2, p) x1 := by rw [hx1]; exact FT_wr hP 2
          have h0 : (0 : Int) < 2 := by decide
          have hres : ml_x tp n (k + 1) p os u st = Sum.inl (2, p) := by rw [ml_x, if_neg hn41, if_neg hnx]; exact if_pos (it_n0 h168)
          refine ax_load (q := 177) rfl rfl rfl rfl rfl ?_
          refine ax_getf (q := 180) (v := am_I (x1.1 135 2)) rfl rfl (rfl) ?_
          refine ax_if_ne (q := 183) (x := 188) rfl rfl (fun h180 => ?_) (fun h => absurd h (by omega))
          refine ax_ret (r := none) rfl rfl ?_
          exact hN _ hres _ hfx h0 hF
      · refine ax_load (q := 99) rfl rfl rfl rfl rfl ?_
        refine ax_calls (q := 102) rfl rfl rfl rfl rfl ?_
        refine m_tight (by omega) ?_
        refine ax_const (q := 103) (v := am_I 4) rfl rfl rfl ?_
        refine ax_icmp_ne (q := 106) (x := 113) rfl rfl (fun h103 => ?_) (fun h103 => ?_)
        · have hnr : ¬ (ti_ (sg2_ tp n p) = 4 ∧ hrll_ os = true) := fun q => by omega
          refine ax_load (q := 114) rfl rfl rfl rfl rfl ?_
          refine ax_load (q := 115) rfl rfl rfl rfl rfl ?_
          refine ax_calls (q := 118) rfl rfl rfl rfl rfl ?_
          refine m_tight (by omega) ?_
          refine ax_callv (q := 121) rfl rfl rfl rfl rfl rfl ?_
          refine m_close (by omega) rfl hc h17 hdp (by omega) (by omega) (by omega) (by omega) (fun σd hcl => ?_)
          have hT1 := TE_.cl hT hcl
          have hfc : RF_ σ0 σd := RF_.tr hf hcl.1 (by decide) (by decide) (by decide)
          have e1 := cel_len (ti_ (sg2_ tp n p) : Nat) os
          have e2 := czl_dp (ti_ (sg2_ tp n p) : Nat) os
          refine ax_load (q := 122) rfl rfl rfl rfl rfl ?_
          refine ax_getf (q := 125) (v := am_R 142) rfl rfl (rfl) ?_
          refine ax_load (q := 126) rfl rfl rfl rfl rfl ?_
          refine ax_getf (q := 129) (v := am_I (((czl_ (ti_ (sg2_ tp n p) : Nat) os).length : Nat) : Int)) rfl rfl (am_fg rfl hT1.2.2.1) ?_
          refine ax_load (q := 130) rfl rfl rfl rfl rfl ?_
          refine bx_iast (q := 131) (k := (czl_ (ti_ (sg2_ tp n p) : Nat) os).length) rfl rfl (rfl) (by omega) (by omega) ?_
          refine ax_load (q := 132) rfl rfl rfl rfl rfl ?_
          refine ax_dup (q := 133) rfl rfl rfl ?_
          refine ax_getf (q := 136) (v := am_I (((czl_ (ti_ (sg2_ tp n p) : Nat) os).length : Nat) : Int)) rfl rfl (am_fg rfl (by rw [sI_ne (by decide)]; exact hT1.2.2.1)) ?_
          refine ax_const (q := 137) (v := am_I 1) rfl rfl rfl ?_
          refine ax_iadd (q := 138) (z := ((((czl_ (ti_ (sg2_ tp n p) : Nat) os).length) + 1 : Nat) : Int)) rfl rfl (am_we (by omega) (by omega) (by omega)) ?_
          refine ax_putf (q := 141) rfl rfl rfl ?_
          refine ax_load (q := 142) rfl rfl rfl rfl rfl ?_
          refine ax_callv (q := 145) rfl rfl rfl rfl rfl rfl ?_
          have hT2 := TE_.push hT1 (x := sg2_ tp n p) hsn.1 hsn.2
          refine m_tokenN (by omega) hT2.1 (fun σ3 hk3 hP3 => ?_)
          have hT3 := TE_.tok hT2 hk3 hP3
          have hf3 : RF_ σ0 σ3 := RF_.tr (fp_s5 (fp_sI hfc (by decide) (by decide)) (by decide)) hk3 (by decide) (by decide) (by decide)
          have hdq : dpl_ (sg2_ tp n p :: (czl_ (ti_ (sg2_ tp n p) : Nat) os)) = dpl_ (czl_ (ti_ (sg2_ tp n p) : Nat) os) := by show _ + (if _ then 1 else 0) = _; rw [if_neg (by rintro (q | q); exact hsn.1 q; exact hsn.2 q)]; rfl
          have hq : tks_ tp n p ≠ 0 ∧ tks_ tp n p ≠ 3 := sg_tk h95
          have hlt := nxp_lt hpn hq.1 hq.2
          have hc1 : ¬ (tks_ tp n p = 41 ∧ hbl_ os = true) := hn41
          have hc2 : sg2_ tp n p ≠ 0 ∧ ¬ (ti_ (sg2_ tp n p) = 4 ∧ hrll_ os = true) := ⟨h95, hnr⟩
          refine ax_load (q := 146) rfl rfl rfl rfl rfl ?_
          refine ax_callv (q := 149) rfl rfl rfl rfl rfl rfl ?_
          refine r_unit (by omega) hT3 hf3 (by rw [hdq]; omega) a2 (by rw [hdq, List.length_cons]; omega) (by rw [List.length_cons, List.length_append]; omega) (fun e he x4 hf4 h0 hF => ?_) (fun r hr σ4 hf4 hT4 hA4 => ?_)
          · rw [hdq] at he
            have hbad := FT_pos hF h0
            have hres : ml_x tp n (k + 1) p os u st = Sum.inl e := by rw [ml_x, if_neg hc1, if_pos hc2]; exact sb_l he
            refine ax_goto (x := 154) rfl ?_
            refine ax_goto (x := 30) rfl ?_
            refine ax_load (q := 31) rfl rfl rfl rfl rfl ?_
            refine ax_if_eq (q := 34) (x := 157) rfl rfl (fun h => absurd h (by omega)) (fun h31 => ?_)
            refine ax_load (q := 35) rfl rfl rfl rfl rfl ?_
            refine ax_getf (q := 38) (v := am_I (x4.1 135 2)) rfl rfl (rfl) ?_
            refine ax_if_ne (q := 41) (x := 157) rfl rfl (fun h38 => ?_) (fun h => absurd h (by omega))
            refine ax_load (q := 158) rfl rfl rfl rfl rfl ?_
            refine ax_getf (q := 161) (v := am_I (x4.1 135 2)) rfl rfl (rfl) ?_
            refine ax_if_ne (q := 164) (x := 176) rfl rfl (fun h161 => ?_) (fun h => absurd h (by omega))
            refine ax_load (q := 177) rfl rfl rfl rfl rfl ?_
            refine ax_getf (q := 180) (v := am_I (x4.1 135 2)) rfl rfl (rfl) ?_
            refine ax_if_ne (q := 183) (x := 188) rfl rfl (fun h180 => ?_) (fun h => absurd h (by omega))
            refine ax_ret (r := none) rfl rfl ?_
            exact hN _ hres _ hf4 h0 hF
          · rw [hdq] at hr
            have hst : ml_x tp n (k + 1) p os u st = ml_x tp n k r.1 r.2.1 r.2.2.1 (st ++ cel_ (ti_ (sg2_ tp n p) : Nat) os ++ [r.2.2.2]) := by rw [ml_x, if_neg hc1, if_pos hc2]; exact sb_r hr
            rw [hst] at hN hY
            have hle := un_le _ _ _ _ hr hP3.2.2.2.2.1
            refine ax_goto (x := 154) rfl ?_
            refine ax_goto (x := 30) rfl ?_
            exact ih _ _ _ _ _ _ hT4 hf4 hA4 (by omega) hN hY
        · refine ax_load (q := 107) rfl rfl rfl rfl rfl ?_
          refine ax_callv (q := 110) rfl rfl rfl rfl rfl rfl ?_
          refine m_hasRelation (by omega) rfl hc (by omega) ?_
          rw [hrl_ol, hos]
          refine ax_if_ne (q := 113) (x := 152) rfl rfl (fun h110 => ?_) (fun h110 => ?_)
          · have hnx : ¬ (sg2_ tp n p ≠ 0 ∧ ¬ (ti_ (sg2_ tp n p) = 4 ∧ hrll_ os = true)) := fun q => q.2 ⟨by omega, it_n0 h110⟩
            refine ax_const (q := 153) (v := am_I 0) rfl rfl rfl ?_
            refine ax_store (q := 154) (L' := [some (am_R 135), some (am_I 0), some (am_I (sg2_ tp n p))]) rfl rfl rfl rfl rfl rfl ?_
            refine ax_goto (x := 30) rfl ?_
            refine ax_load (q := 31) rfl rfl rfl rfl rfl ?_
            refine ax_if_eq (q := 34) (x := 157) rfl rfl (fun h31 => ?_) (fun h => absurd h (by omega))
            refine ax_load (q := 158) rfl rfl rfl rfl rfl ?_
            refine ax_getf (q := 161) (v := am_I 0) rfl rfl (am_fg rfl h02) ?_
            refine ax_if_ne (q := 164) (x := 176) rfl rfl (fun h => absurd h (by omega)) (fun h161 => ?_)
            refine ax_load (q := 165) rfl rfl rfl rfl rfl ?_
            refine ax_callv (q := 168) rfl rfl rfl rfl rfl rfl ?_
            refine m_hasBracket (by omega) rfl hc (by omega) ?_
            rw [hb_ol, hos]
            refine ax_if_eq (q := 171) (x := 176) rfl rfl (fun h168 => ?_) (fun h168 => ?_)
            · refine ax_load (q := 177) rfl rfl rfl rfl rfl ?_
              refine ax_getf (q := 180) (v := am_I 0) rfl rfl (am_fg rfl h02) ?_
              refine ax_if_ne (q := 183) (x := 188) rfl rfl (fun h => absurd h (by omega)) (fun h180 => ?_)
              refine ax_load (q := 184) rfl rfl rfl rfl rfl ?_
              refine ax_const (q := 185) (v := am_I 0) rfl rfl rfl ?_
              refine ax_callv (q := 188) rfl rfl rfl rfl rfl rfl ?_
              refine m_close (by omega) rfl hc h17 hdp (by omega) (by omega) (by omega) (by omega) (fun σ1 hcl => ?_)
              have hT1 := TE_.cl hT hcl
              have hfc : RF_ σ0 σ1 := RF_.tr hf hcl.1 (by decide) (by decide) (by decide)
              refine ax_ret (r := none) rfl rfl ?_
              exact hY (p, u, st ++ cel_ 0 os) (by rw [ml_x, if_neg hn41, if_neg hnx]; exact if_neg (by rw [it_0 h168]; decide)) _ hfc hT1.2.1 hT1.1 hT1.2.2.2.2.2.2
            · refine ax_load (q := 172) rfl rfl rfl rfl rfl ?_
              refine ax_const (q := 173) (v := am_I 2) rfl rfl rfl ?_
              refine ax_callv (q := 176) rfl rfl rfl rfl rfl rfl ?_
              refine m_wrong (by omega) ?_
              rw [if_neg (by rw [h02]; decide)]
              obtain ⟨x1, hx1⟩ : ∃ s, s = wr_ σ 2 := ⟨_, rfl⟩
              rw [← hx1]
              have hbad : 0 < x1.1 135 2 := by rw [hx1]; exact wr_2 σ (by decide)
              have hfx : RF_ σ0 x1 := by rw [hx1]; exact fp_wr hf (by decide) (by decide)
              have hF : FT_ tp n (2, p) x1 := by rw [hx1]; exact FT_wr hP 2
              have h0 : (0 : Int) < 2 := by decide
              have hres : ml_x tp n (k + 1) p os u st = Sum.inl (2, p) := by rw [ml_x, if_neg hn41, if_neg hnx]; exact if_pos (it_n0 h168)
              refine ax_load (q := 177) rfl rfl rfl rfl rfl ?_
              refine ax_getf (q := 180) (v := am_I (x1.1 135 2)) rfl rfl (rfl) ?_
              refine ax_if_ne (q := 183) (x := 188) rfl rfl (fun h180 => ?_) (fun h => absurd h (by omega))
              refine ax_ret (r := none) rfl rfl ?_
              exact hN _ hres _ hfx h0 hF
          · have hnr : ¬ (ti_ (sg2_ tp n p) = 4 ∧ hrll_ os = true) := fun q => by rw [it_0 (by omega : (if hrll_ os then (1 : Int) else 0) = 0)] at q; cases q.2
            refine ax_load (q := 114) rfl rfl rfl rfl rfl ?_
            refine ax_load (q := 115) rfl rfl rfl rfl rfl ?_
            refine ax_calls (q := 118) rfl rfl rfl rfl rfl ?_
            refine m_tight (by omega) ?_
            refine ax_callv (q := 121) rfl rfl rfl rfl rfl rfl ?_
            refine m_close (by omega) rfl hc h17 hdp (by omega) (by omega) (by omega) (by omega) (fun σd hcl => ?_)
            have hT1 := TE_.cl hT hcl
            have hfc : RF_ σ0 σd := RF_.tr hf hcl.1 (by decide) (by decide) (by decide)
            have e1 := cel_len (ti_ (sg2_ tp n p) : Nat) os
            have e2 := czl_dp (ti_ (sg2_ tp n p) : Nat) os
            refine ax_load (q := 122) rfl rfl rfl rfl rfl ?_
            refine ax_getf (q := 125) (v := am_R 142) rfl rfl (rfl) ?_
            refine ax_load (q := 126) rfl rfl rfl rfl rfl ?_
            refine ax_getf (q := 129) (v := am_I (((czl_ (ti_ (sg2_ tp n p) : Nat) os).length : Nat) : Int)) rfl rfl (am_fg rfl hT1.2.2.1) ?_
            refine ax_load (q := 130) rfl rfl rfl rfl rfl ?_
            refine bx_iast (q := 131) (k := (czl_ (ti_ (sg2_ tp n p) : Nat) os).length) rfl rfl (rfl) (by omega) (by omega) ?_
            refine ax_load (q := 132) rfl rfl rfl rfl rfl ?_
            refine ax_dup (q := 133) rfl rfl rfl ?_
            refine ax_getf (q := 136) (v := am_I (((czl_ (ti_ (sg2_ tp n p) : Nat) os).length : Nat) : Int)) rfl rfl (am_fg rfl (by rw [sI_ne (by decide)]; exact hT1.2.2.1)) ?_
            refine ax_const (q := 137) (v := am_I 1) rfl rfl rfl ?_
            refine ax_iadd (q := 138) (z := ((((czl_ (ti_ (sg2_ tp n p) : Nat) os).length) + 1 : Nat) : Int)) rfl rfl (am_we (by omega) (by omega) (by omega)) ?_
            refine ax_putf (q := 141) rfl rfl rfl ?_
            refine ax_load (q := 142) rfl rfl rfl rfl rfl ?_
            refine ax_callv (q := 145) rfl rfl rfl rfl rfl rfl ?_
            have hT2 := TE_.push hT1 (x := sg2_ tp n p) hsn.1 hsn.2
            refine m_tokenN (by omega) hT2.1 (fun σ3 hk3 hP3 => ?_)
            have hT3 := TE_.tok hT2 hk3 hP3
            have hf3 : RF_ σ0 σ3 := RF_.tr (fp_s5 (fp_sI hfc (by decide) (by decide)) (by decide)) hk3 (by decide) (by decide) (by decide)
            have hdq : dpl_ (sg2_ tp n p :: (czl_ (ti_ (sg2_ tp n p) : Nat) os)) = dpl_ (czl_ (ti_ (sg2_ tp n p) : Nat) os) := by show _ + (if _ then 1 else 0) = _; rw [if_neg (by rintro (q | q); exact hsn.1 q; exact hsn.2 q)]; rfl
            have hq : tks_ tp n p ≠ 0 ∧ tks_ tp n p ≠ 3 := sg_tk h95
            have hlt := nxp_lt hpn hq.1 hq.2
            have hc1 : ¬ (tks_ tp n p = 41 ∧ hbl_ os = true) := hn41
            have hc2 : sg2_ tp n p ≠ 0 ∧ ¬ (ti_ (sg2_ tp n p) = 4 ∧ hrll_ os = true) := ⟨h95, hnr⟩
            refine ax_load (q := 146) rfl rfl rfl rfl rfl ?_
            refine ax_callv (q := 149) rfl rfl rfl rfl rfl rfl ?_
            refine r_unit (by omega) hT3 hf3 (by rw [hdq]; omega) a2 (by rw [hdq, List.length_cons]; omega) (by rw [List.length_cons, List.length_append]; omega) (fun e he x4 hf4 h0 hF => ?_) (fun r hr σ4 hf4 hT4 hA4 => ?_)
            · rw [hdq] at he
              have hbad := FT_pos hF h0
              have hres : ml_x tp n (k + 1) p os u st = Sum.inl e := by rw [ml_x, if_neg hc1, if_pos hc2]; exact sb_l he
              refine ax_goto (x := 154) rfl ?_
              refine ax_goto (x := 30) rfl ?_
              refine ax_load (q := 31) rfl rfl rfl rfl rfl ?_
              refine ax_if_eq (q := 34) (x := 157) rfl rfl (fun h => absurd h (by omega)) (fun h31 => ?_)
              refine ax_load (q := 35) rfl rfl rfl rfl rfl ?_
              refine ax_getf (q := 38) (v := am_I (x4.1 135 2)) rfl rfl (rfl) ?_
              refine ax_if_ne (q := 41) (x := 157) rfl rfl (fun h38 => ?_) (fun h => absurd h (by omega))
              refine ax_load (q := 158) rfl rfl rfl rfl rfl ?_
              refine ax_getf (q := 161) (v := am_I (x4.1 135 2)) rfl rfl (rfl) ?_
              refine ax_if_ne (q := 164) (x := 176) rfl rfl (fun h161 => ?_) (fun h => absurd h (by omega))
              refine ax_load (q := 177) rfl rfl rfl rfl rfl ?_
              refine ax_getf (q := 180) (v := am_I (x4.1 135 2)) rfl rfl (rfl) ?_
              refine ax_if_ne (q := 183) (x := 188) rfl rfl (fun h180 => ?_) (fun h => absurd h (by omega))
              refine ax_ret (r := none) rfl rfl ?_
              exact hN _ hres _ hf4 h0 hF
            · rw [hdq] at hr
              have hst : ml_x tp n (k + 1) p os u st = ml_x tp n k r.1 r.2.1 r.2.2.1 (st ++ cel_ (ti_ (sg2_ tp n p) : Nat) os ++ [r.2.2.2]) := by rw [ml_x, if_neg hc1, if_pos hc2]; exact sb_r hr
              rw [hst] at hN hY
              have hle := un_le _ _ _ _ hr hP3.2.2.2.2.1
              refine ax_goto (x := 154) rfl ?_
              refine ax_goto (x := 30) rfl ?_
              exact ih _ _ _ _ _ _ hT4 hf4 hA4 (by omega) hN hY
    · refine ax_load (q := 56) rfl rfl rfl rfl rfl ?_
      refine ax_callv (q := 59) rfl rfl rfl rfl rfl rfl ?_
      refine m_hasBracket (by omega) rfl hc (by omega) ?_
      rw [hb_ol, hos]
      refine ax_if_eq (q := 62) (x := 94) rfl rfl (fun h59 => ?_) (fun h59 => ?_)
      · have hn41 : ¬ (tks_ tp n p = 41 ∧ hbl_ os = true) := fun q => by rw [it_0 h59] at q; cases q.2
        refine ax_load (q := 95) rfl rfl rfl rfl rfl ?_
        refine ax_if_eq (q := 98) (x := 152) rfl rfl (fun h95 => ?_) (fun h95 => ?_)
        · have hnx : ¬ (sg2_ tp n p ≠ 0 ∧ ¬ (ti_ (sg2_ tp n p) = 4 ∧ hrll_ os = true)) := fun q => q.1 h95
          refine ax_const (q := 153) (v := am_I 0) rfl rfl rfl ?_
          refine ax_store (q := 154) (L' := [some (am_R 135), some (am_I 0), some (am_I (sg2_ tp n p))]) rfl rfl rfl rfl rfl rfl ?_
          refine ax_goto (x := 30) rfl ?_
          refine ax_load (q := 31) rfl rfl rfl rfl rfl ?_
          refine ax_if_eq (q := 34) (x := 157) rfl rfl (fun h31 => ?_) (fun h => absurd h (by omega))
          refine ax_load (q := 158) rfl rfl rfl rfl rfl ?_
          refine ax_getf (q := 161) (v := am_I 0) rfl rfl (am_fg rfl h02) ?_
          refine ax_if_ne (q := 164) (x := 176) rfl rfl (fun h => absurd h (by omega)) (fun h161 => ?_)
          refine ax_load (q := 165) rfl rfl rfl rfl rfl ?_
          refine ax_callv (q := 168) rfl rfl rfl rfl rfl rfl ?_
          refine m_hasBracket (by omega) rfl hc (by omega) ?_
          rw [hb_ol, hos]
          refine ax_if_eq (q := 171) (x := 176) rfl rfl (fun h168 => ?_) (fun h168 => ?_)
          · refine ax_load (q := 177) rfl rfl rfl rfl rfl ?_
            refine ax_getf (q := 180) (v := am_I 0) rfl rfl (am_fg rfl h02) ?_
            refine ax_if_ne (q := 183) (x := 188) rfl rfl (fun h => absurd h (by omega)) (fun h180 => ?_)
            refine ax_load (q := 184) rfl rfl rfl rfl rfl ?_
            refine ax_const (q := 185) (v := am_I 0) rfl rfl rfl ?_
            refine ax_callv (q := 188) rfl rfl rfl rfl rfl rfl ?_
            refine m_close (by omega) rfl hc h17 hdp (by omega) (by omega) (by omega) (by omega) (fun σ1 hcl => ?_)
            have hT1 := TE_.cl hT hcl
            have hfc : RF_ σ0 σ1 := RF_.tr hf hcl.1 (by decide) (by decide) (by decide)
            refine ax_ret (r := none) rfl rfl ?_
            exact hY (p, u, st ++ cel_ 0 os) (by rw [ml_x, if_neg hn41, if_neg hnx]; exact if_neg (by rw [it_0 h168]; decide)) _ hfc hT1.2.1 hT1.1 hT1.2.2.2.2.2.2
          · refine ax_load (q := 172) rfl rfl rfl rfl rfl ?_
            refine ax_const (q := 173) (v := am_I 2) rfl rfl rfl ?_
            refine ax_callv (q := 176) rfl rfl rfl rfl rfl rfl ?_
            refine m_wrong (by omega) ?_
            rw [if_neg (by rw [h02]; decide)]
            obtain ⟨x1, hx1⟩ : ∃ s, s = wr_ σ 2 := ⟨_, rfl⟩
            rw [← hx1]
            have hbad : 0 < x1.1 135 2 := by rw [hx1]; exact wr_2 σ (by decide)
            have hfx : RF_ σ0 x1 := by rw [hx1]; exact fp_wr hf (by decide) (by decide)
            have hF : FT_ tp n (2, p) x1 := by rw [hx1]; exact FT_wr hP 2
            have h0 : (0 : Int) < 2 := by decide
            have hres : ml_x tp n (k + 1) p os u st = Sum.inl (2, p) := by rw [ml_x, if_neg hn41, if_neg hnx]; exact if_pos (it_n0 h168)
            refine ax_load (q := 177) rfl rfl rfl rfl rfl ?_
            refine ax_getf (q := 180) (v := am_I (x1.1 135 2)) rfl rfl (rfl) ?_
            refine ax_if_ne (q := 183) (x := 188) rfl rfl (fun h180 => ?_) (fun h => absurd h (by omega))
            refine ax_ret (r := none) rfl rfl ?_
            exact hN _ hres _ hfx h0 hF
        · refine ax_load (q := 99) rfl rfl rfl rfl rfl ?_
          refine ax_calls (q := 102) rfl rfl rfl rfl rfl ?_
          refine m_tight (by omega) ?_
          refine ax_const (q := 103) (v := am_I 4) rfl rfl rfl ?_
          refine ax_icmp_ne (q := 106) (x := 113) rfl rfl (fun h103 => ?_) (fun h103 => ?_)
          · have hnr : ¬ (ti_ (sg2_ tp n p) = 4 ∧ hrll_ os = true) := fun q => by omega
            refine ax_load (q := 114) rfl rfl rfl rfl rfl ?_
            refine ax_load (q := 115) rfl rfl rfl rfl rfl ?_
            refine ax_calls (q := 118) rfl rfl rfl rfl rfl ?_
            refine m_tight (by omega) ?_
            refine ax_callv (q := 121) rfl rfl rfl rfl rfl rfl ?_
            refine m_close (by omega) rfl hc h17 hdp (by omega) (by omega) (by omega) (by omega) (fun σd hcl => ?_)
            have hT1 := TE_.cl hT hcl
            have hfc : RF_ σ0 σd := RF_.tr hf hcl.1 (by decide) (by decide) (by decide)
            have e1 := cel_len (ti_ (sg2_ tp n p) : Nat) os
            have e2 := czl_dp (ti_ (sg2_ tp n p) : Nat) os
            refine ax_load (q := 122) rfl rfl rfl rfl rfl ?_
            refine ax_getf (q := 125) (v := am_R 142) rfl rfl (rfl) ?_
            refine ax_load (q := 126) rfl rfl rfl rfl rfl ?_
            refine ax_getf (q := 129) (v := am_I (((czl_ (ti_ (sg2_ tp n p) : Nat) os).length : Nat) : Int)) rfl rfl (am_fg rfl hT1.2.2.1) ?_
            refine ax_load (q := 130) rfl rfl rfl rfl rfl ?_
            refine bx_iast (q := 131) (k := (czl_ (ti_ (sg2_ tp n p) : Nat) os).length) rfl rfl (rfl) (by omega) (by omega) ?_
            refine ax_load (q := 132) rfl rfl rfl rfl rfl ?_
            refine ax_dup (q := 133) rfl rfl rfl ?_
            refine ax_getf (q := 136) (v := am_I (((czl_ (ti_ (sg2_ tp n p) : Nat) os).length : Nat) : Int)) rfl rfl (am_fg rfl (by rw [sI_ne (by decide)]; exact hT1.2.2.1)) ?_
            refine ax_const (q := 137) (v := am_I 1) rfl rfl rfl ?_
            refine ax_iadd (q := 138) (z := ((((czl_ (ti_ (sg2_ tp n p) : Nat) os).length) + 1 : Nat) : Int)) rfl rfl (am_we (by omega) (by omega) (by omega)) ?_
            refine ax_putf (q := 141) rfl rfl rfl ?_
            refine ax_load (q := 142) rfl rfl rfl rfl rfl ?_
            refine ax_callv (q := 145) rfl rfl rfl rfl rfl rfl ?_
            have hT2 := TE_.push hT1 (x := sg2_ tp n p) hsn.1 hsn.2
            refine m_tokenN (by omega) hT2.1 (fun σ3 hk3 hP3 => ?_)
            have hT3 := TE_.tok hT2 hk3 hP3
            have hf3 : RF_ σ0 σ3 := RF_.tr (fp_s5 (fp_sI hfc (by decide) (by decide)) (by decide)) hk3 (by decide) (by decide) (by decide)
            have hdq : dpl_ (sg2_ tp n p :: (czl_ (ti_ (sg2_ tp n p) : Nat) os)) = dpl_ (czl_ (ti_ (sg2_ tp n p) : Nat) os) := by show _ + (if _ then 1 else 0) = _; rw [if_neg (by rintro (q | q); exact hsn.1 q; exact hsn.2 q)]; rfl
            have hq : tks_ tp n p ≠ 0 ∧ tks_ tp n p ≠ 3 := sg_tk h95
            have hlt := nxp_lt hpn hq.1 hq.2
            have hc1 : ¬ (tks_ tp n p = 41 ∧ hbl_ os = true) := hn41
            have hc2 : sg2_ tp n p ≠ 0 ∧ ¬ (ti_ (sg2_ tp n p) = 4 ∧ hrll_ os = true) := ⟨h95, hnr⟩
            refine ax_load (q := 146) rfl rfl rfl rfl rfl ?_
            refine ax_callv (q := 149) rfl rfl rfl rfl rfl rfl ?_
            refine r_unit (by omega) hT3 hf3 (by rw [hdq]; omega) a2 (by rw [hdq, List.length_cons]; omega) (by rw [List.length_cons, List.length_append]; omega) (fun e he x4 hf4 h0 hF => ?_) (fun r hr σ4 hf4 hT4 hA4 => ?_)
            · rw [hdq] at he
              have hbad := FT_pos hF h0
              have hres : ml_x tp n (k + 1) p os u st = Sum.inl e := by rw [ml_x, if_neg hc1, if_pos hc2]; exact sb_l he
              refine ax_goto (x := 154) rfl ?_
              refine ax_goto (x := 30) rfl ?_
              refine ax_load (q := 31) rfl rfl rfl rfl rfl ?_
              refine ax_if_eq (q := 34) (x := 157) rfl rfl (fun h => absurd h (by omega)) (fun h31 => ?_)
              refine ax_load (q := 35) rfl rfl rfl rfl rfl ?_
              refine ax_getf (q := 38) (v := am_I (x4.1 135 2)) rfl rfl (rfl) ?_
              refine ax_if_ne (q := 41) (x := 157) rfl rfl (fun h38 => ?_) (fun h => absurd h (by omega))
              refine ax_load (q := 158) rfl rfl rfl rfl rfl ?_
              refine ax_getf (q := 161) (v := am_I (x4.1 135 2)) rfl rfl (rfl) ?_
              refine ax_if_ne (q := 164) (x := 176) rfl rfl (fun h161 => ?_) (fun h => absurd h (by omega))
              refine ax_load (q := 177) rfl rfl rfl rfl rfl ?_
              refine ax_getf (q := 180) (v := am_I (x4.1 135 2)) rfl rfl (rfl) ?_
              refine ax_if_ne (q := 183) (x := 188) rfl rfl (fun h180 => ?_) (fun h => absurd h (by omega))
              refine ax_ret (r := none) rfl rfl ?_
              exact hN _ hres _ hf4 h0 hF
            · rw [hdq] at hr
              have hst : ml_x tp n (k + 1) p os u st = ml_x tp n k r.1 r.2.1 r.2.2.1 (st ++ cel_ (ti_ (sg2_ tp n p) : Nat) os ++ [r.2.2.2]) := by rw [ml_x, if_neg hc1, if_pos hc2]; exact sb_r hr
              rw [hst] at hN hY
              have hle := un_le _ _ _ _ hr hP3.2.2.2.2.1
              refine ax_goto (x := 154) rfl ?_
              refine ax_goto (x := 30) rfl ?_
              exact ih _ _ _ _ _ _ hT4 hf4 hA4 (by omega) hN hY
          · refine ax_load (q := 107) rfl rfl rfl rfl rfl ?_
            refine ax_callv (q := 110) rfl rfl rfl rfl rfl rfl ?_
            refine m_hasRelation (by omega) rfl hc (by omega) ?_
            rw [hrl_ol, hos]
            refine ax_if_ne (q := 113) (x := 152) rfl rfl (fun h110 => ?_) (fun h110 => ?_)
            · have hnx : ¬ (sg2_ tp n p ≠ 0 ∧ ¬ (ti_ (sg2_ tp n p) = 4 ∧ hrll_ os = true)) := fun q => q.2 ⟨by omega, it_n0 h110⟩
              refine ax_const (q := 153) (v := am_I 0) rfl rfl rfl ?_
              refine ax_store (q := 154) (L' := [some (am_R 135), some (am_I 0), some (am_I (sg2_ tp n p))]) rfl rfl rfl rfl rfl rfl ?_
              refine ax_goto (x := 30) rfl ?_
              refine ax_load (q := 31) rfl rfl rfl rfl rfl ?_
              refine ax_if_eq (q := 34) (x := 157) rfl rfl (fun h31 => ?_) (fun h => absurd h (by omega))
              refine ax_load (q := 158) rfl rfl rfl rfl rfl ?_
              refine ax_getf (q := 161) (v := am_I 0) rfl rfl (am_fg rfl h02) ?_
              refine ax_if_ne (q := 164) (x := 176) rfl rfl (fun h => absurd h (by omega)) (fun h161 => ?_)
              refine ax_load (q := 165) rfl rfl rfl rfl rfl ?_
              refine ax_callv (q := 168) rfl rfl rfl rfl rfl rfl ?_
              refine m_hasBracket (by omega) rfl hc (by omega) ?_
              rw [hb_ol, hos]
              refine ax_if_eq (q := 171) (x := 176) rfl rfl (fun h168 => ?_) (fun h168 => ?_)
              · refine ax_load (q := 177) rfl rfl rfl rfl rfl ?_
                refine ax_getf (q := 180) (v := am_I 0) rfl rfl (am_fg rfl h02) ?_
                refine ax_if_ne (q := 183) (x := 188) rfl rfl (fun h => absurd h (by omega)) (fun h180 => ?_)
                refine ax_load (q := 184) rfl rfl rfl rfl rfl ?_
                refine ax_const (q := 185) (v := am_I 0) rfl rfl rfl ?_
                refine ax_callv (q := 188) rfl rfl rfl rfl rfl rfl ?_
                refine m_close (by omega) rfl hc h17 hdp (by omega) (by omega) (by omega) (by omega) (fun σ1 hcl => ?_)
                have hT1 := TE_.cl hT hcl
                have hfc : RF_ σ0 σ1 := RF_.tr hf hcl.1 (by decide) (by decide) (by decide)
                refine ax_ret (r := none) rfl rfl ?_
                exact hY (p, u, st ++ cel_ 0 os) (by rw [ml_x, if_neg hn41, if_neg hnx]; exact if_neg (by rw [it_0 h168]; decide)) _ hfc hT1.2.1 hT1.1 hT1.2.2.2.2.2.2
              · refine ax_load (q := 172) rfl rfl rfl rfl rfl ?_
                refine ax_const (q := 173) (v := am_I 2) rfl rfl rfl ?_
                refine ax_callv (q := 176) rfl rfl rfl rfl rfl rfl ?_
                refine m_wrong (by omega) ?_
                rw [if_neg (by rw [h02]; decide)]
                obtain ⟨x1, hx1⟩ : ∃ s, s = wr_ σ 2 := ⟨_, rfl⟩
                rw [← hx1]
                have hbad : 0 < x1.1 135 2 := by rw [hx1]; exact wr_2 σ (by decide)
                have hfx : RF_ σ0 x1 := by rw [hx1]; exact fp_wr hf (by decide) (by decide)
                have hF : FT_ tp n (2, p) x1 := by rw [hx1]; exact FT_wr hP 2
                have h0 : (0 : Int) < 2 := by decide
                have hres : ml_x tp n (k + 1) p os u st = Sum.inl (2, p) := by rw [ml_x, if_neg hn41, if_neg hnx]; exact if_pos (it_n0 h168)
                refine ax_load (q := 177) rfl rfl rfl rfl rfl ?_
                refine ax_getf (q := 180) (v := am_I (x1.1 135 2)) rfl rfl (rfl) ?_
                refine ax_if_ne (q := 183) (x := 188) rfl rfl (fun h180 => ?_) (fun h => absurd h (by omega))
                refine ax_ret (r := none) rfl rfl ?_
                exact hN _ hres _ hfx h0 hF
            · have hnr : ¬ (ti_ (sg2_ tp n p) = 4 ∧ hrll_ os = true) := fun q => by rw [it_0 (by omega : (if hrll_ os then (1 : Int) else 0) = 0)] at q; cases q.2
              refine ax_load (q := 114) rfl rfl rfl rfl rfl ?_
              refine ax_load (q := 115) rfl rfl rfl rfl rfl ?_
              refine ax_calls (q := 118) rfl rfl rfl rfl rfl ?_
              refine m_tight (by omega) ?_
              refine ax_callv (q := 121) rfl rfl rfl rfl rfl rfl ?_
              refine m_close (by omega) rfl hc h17 hdp (by omega) (by omega) (by omega) (by omega) (fun σd hcl => ?_)
              have hT1 := TE_.cl hT hcl
              have hfc : RF_ σ0 σd := RF_.tr hf hcl.1 (by decide) (by decide) (by decide)
              have e1 := cel_len (ti_ (sg2_ tp n p) : Nat) os
              have e2 := czl_dp (ti_ (sg2_ tp n p) : Nat) os
              refine ax_load (q := 122) rfl rfl rfl rfl rfl ?_
              refine ax_getf (q := 125) (v := am_R 142) rfl rfl (rfl) ?_
              refine ax_load (q := 126) rfl rfl rfl rfl rfl ?_
              refine ax_getf (q := 129) (v := am_I (((czl_ (ti_ (sg2_ tp n p) : Nat) os).length : Nat) : Int)) rfl rfl (am_fg rfl hT1.2.2.1) ?_
              refine ax_load (q := 130) rfl rfl rfl rfl rfl ?_
              refine bx_iast (q := 131) (k := (czl_ (ti_ (sg2_ tp n p) : Nat) os).length) rfl rfl (rfl) (by omega) (by omega) ?_
              refine ax_load (q := 132) rfl rfl rfl rfl rfl ?_
              refine ax_dup (q := 133) rfl rfl rfl ?_
              refine ax_getf (q := 136) (v := am_I (((czl_ (ti_ (sg2_ tp n p) : Nat) os).length : Nat) : Int)) rfl rfl (am_fg rfl (by rw [sI_ne (by decide)]; exact hT1.2.2.1)) ?_
              refine ax_const (q := 137) (v := am_I 1) rfl rfl rfl ?_
              refine ax_iadd (q := 138) (z := ((((czl_ (ti_ (sg2_ tp n p) : Nat) os).length) + 1 : Nat) : Int)) rfl rfl (am_we (by omega) (by omega) (by omega)) ?_
              refine ax_putf (q := 141) rfl rfl rfl ?_
              refine ax_load (q := 142) rfl rfl rfl rfl rfl ?_
              refine ax_callv (q := 145) rfl rfl rfl rfl rfl rfl ?_
              have hT2 := TE_.push hT1 (x := sg2_ tp n p) hsn.1 hsn.2
              refine m_tokenN (by omega) hT2.1 (fun σ3 hk3 hP3 => ?_)
              have hT3 := TE_.tok hT2 hk3 hP3
              have hf3 : RF_ σ0 σ3 := RF_.tr (fp_s5 (fp_sI hfc (by decide) (by decide)) (by decide)) hk3 (by decide) (by decide) (by decide)
              have hdq : dpl_ (sg2_ tp n p :: (czl_ (ti_ (sg2_ tp n p) : Nat) os)) = dpl_ (czl_ (ti_ (sg2_ tp n p) : Nat) os) := by show _ + (if _ then 1 else 0) = _; rw [if_neg (by rintro (q | q); exact hsn.1 q; exact hsn.2 q)]; rfl
              have hq : tks_ tp n p ≠ 0 ∧ tks_ tp n p ≠ 3 := sg_tk h95
              have hlt := nxp_lt hpn hq.1 hq.2
              have hc1 : ¬ (tks_ tp n p = 41 ∧ hbl_ os = true) := hn41
              have hc2 : sg2_ tp n p ≠ 0 ∧ ¬ (ti_ (sg2_ tp n p) = 4 ∧ hrll_ os = true) := ⟨h95, hnr⟩
              refine ax_load (q := 146) rfl rfl rfl rfl rfl ?_
              refine ax_callv (q := 149) rfl rfl rfl rfl rfl rfl ?_
              refine r_unit (by omega) hT3 hf3 (by rw [hdq]; omega) a2 (by rw [hdq, List.length_cons]; omega) (by rw [List.length_cons, List.length_append]; omega) (fun e he x4 hf4 h0 hF => ?_) (fun r hr σ4 hf4 hT4 hA4 => ?_)
              · rw [hdq] at he
                have hbad := FT_pos hF h0
                have hres : ml_x tp n (k + 1) p os u st = Sum.inl e := by rw [ml_x, if_neg hc1, if_pos hc2]; exact sb_l he
                refine ax_goto (x := 154) rfl ?_
                refine ax_goto (x := 30) rfl ?_
                refine ax_load (q := 31) rfl rfl rfl rfl rfl ?_
                refine ax_if_eq (q := 34) (x := 157) rfl rfl (fun h => absurd h (by omega)) (fun h31 => ?_)
                refine ax_load (q := 35) rfl rfl rfl rfl rfl ?_
                refine ax_getf (q := 38) (v := am_I (x4.1 135 2)) rfl rfl (rfl) ?_
                refine ax_if_ne (q := 41) (x := 157) rfl rfl (fun h38 => ?_) (fun h => absurd h (by omega))
                refine ax_load (q := 158) rfl rfl rfl rfl rfl ?_
                refine ax_getf (q := 161) (v := am_I (x4.1 135 2)) rfl rfl (rfl) ?_
                refine ax_if_ne (q := 164) (x := 176) rfl rfl (fun h161 => ?_) (fun h => absurd h (by omega))
                refine ax_load (q := 177) rfl rfl rfl rfl rfl ?_
                refine ax_getf (q := 180) (v := am_I (x4.1 135 2)) rfl rfl (rfl) ?_
                refine ax_if_ne (q := 183) (x := 188) rfl rfl (fun h180 => ?_) (fun h => absurd h (by omega))
                refine ax_ret (r := none) rfl rfl ?_
                exact hN _ hres _ hf4 h0 hF
              · rw [hdq] at hr
                have hst : ml_x tp n (k + 1) p os u st = ml_x tp n k r.1 r.2.1 r.2.2.1 (st ++ cel_ (ti_ (sg2_ tp n p) : Nat) os ++ [r.2.2.2]) := by rw [ml_x, if_neg hc1, if_pos hc2]; exact sb_r hr
                rw [hst] at hN hY
                have hle := un_le _ _ _ _ hr hP3.2.2.2.2.1
                refine ax_goto (x := 154) rfl ?_
                refine ax_goto (x := 30) rfl ?_
                exact ih _ _ _ _ _ _ hT4 hf4 hA4 (by omega) hN hY
      · refine ax_load (q := 63) rfl rfl rfl rfl rfl ?_
        refine ax_const (q := 64) (v := am_I 0) rfl rfl rfl ?_
        refine ax_callv (q := 67) rfl rfl rfl rfl rfl rfl ?_
        refine m_close (by omega) rfl hc h17 hdp (by omega) (by omega) (by omega) (by omega) (fun σc hcl => ?_)
        have hT1 := TE_.cl hT hcl
        have hfc : RF_ σ0 σc := RF_.tr hf hcl.1 (by decide) (by decide) (by decide)
        have e1 := cel_len 0 os
        have e2 := czl_dp 0 os
        refine ax_load (q := 68) rfl rfl rfl rfl rfl ?_
        refine ax_dup (q := 69) rfl rfl rfl ?_
        refine ax_getf (q := 72) (v := am_I (((czl_ 0 os).length : Nat) : Int)) rfl rfl (am_fg rfl hT1.2.2.1) ?_
        refine ax_const (q := 73) (v := am_I 1) rfl rfl rfl ?_
        refine ax_isub (q := 74) (z := (((czl_ 0 os).length : Nat) : Int) - 1) rfl rfl (am_we (by omega) (by omega) (by omega)) ?_
        refine ax_putf (q := 77) rfl rfl rfl ?_
        refine ax_load (q := 78) rfl rfl rfl rfl rfl ?_
        refine ax_dup (q := 79) rfl rfl rfl ?_
        refine ax_getf (q := 82) (v := am_I (((dpl_ (czl_ 0 os)) : Nat) : Int)) rfl rfl (am_fg rfl (by rw [sI_at, am_up_ne (by decide)]; exact hT1.2.2.2.2.1)) ?_
        refine ax_const (q := 83) (v := am_I 1) rfl rfl rfl ?_
        refine ax_isub (q := 84) (z := (((dpl_ (czl_ 0 os)) : Nat) : Int) - 1) rfl rfl (am_we (by omega) (by omega) (by omega)) ?_
        refine ax_putf (q := 87) rfl rfl rfl ?_
        refine ax_load (q := 88) rfl rfl rfl rfl rfl ?_
        refine ax_callv (q := 91) rfl rfl rfl rfl rfl rfl ?_
        obtain ⟨r, hr⟩ := czl_br os (it_n0 h59)
        rw [hr] at hT1
        have hl := congrArg List.length hr
        have hdq : dpl_ (20 :: r) = dpl_ r + 1 := rfl
        rw [List.length_cons] at hl
        have hT2 := TE_.pop hT1 (y := ((((czl_ 0 os).length : Nat) : Int) - 1)) (z := ((((dpl_ (czl_ 0 os)) : Nat) : Int) - 1)) (by omega) (by rw [hr]; omega)
        refine m_tokenN (by omega) hT2.1 (fun σ3 hk3 hP3 => ?_)
        have hT3 := TE_.tok hT2 hk3 hP3
        have hf3 : RF_ σ0 σ3 := RF_.tr (fp_s5 (fp_s5 hfc (by decide)) (by decide)) hk3 (by decide) (by decide) (by decide)
        have hst : ml_x tp n (k + 1) p os u st = ml_x tp n k (nxp_ tp n p) r u (st ++ cel_ 0 os) := by rw [ml_x, if_pos ⟨by omega, it_n0 h59⟩, hr]; rfl
        rw [hst] at hN hY
        have e1 := cel_len 0 os
        have e2 := czl_dp 0 os
        rw [hr, List.length_cons] at e1 e2
        rw [hdq] at e2
        have hlt := nxp_lt hpn (by omega : tks_ tp n p ≠ 0) (by omega)
        refine ax_goto (x := 154) rfl ?_
        refine ax_goto (x := 30) rfl ?_
        exact ih _ _ _ _ _ _ hT3 hf3 ⟨by omega, a2, by omega, by rw [List.length_append]; omega⟩ (by omega) hN hY

theorem r_readTeach {d : Nat} (hd : 7 ≤ d) {σ : am_S} {tp : Nat → Int} {n p : Nat} (hP : PS_ tp n p σ) (h02 : σ.1 135 2 = 0) {D : sp_T} (hR : RS_ D σ) (hu0 : D 135 20 = 0) {Q : Option am_V → am_S → Prop} (hQ : LO_ tp n (sb_ (tea_ tp n p) fun r => Sum.inr (tq_ D r.2.1 r.2.2, r.1)) σ Q) : am_Ev d 170 [am_R 135] σ Q := by
  obtain ⟨d, rfl⟩ : ∃ e, d = e + 1 := ⟨d - 1, by omega⟩
  refine ev_in (m := 170) (c := k_X9_readTeach) (L := [some (am_R 135), none, none]) rfl rfl rfl rfl rfl rfl ?_
  refine ax_load (q := 1) rfl rfl rfl rfl rfl ?_
  refine ax_callv (q := 4) rfl rfl rfl rfl rfl rfl ?_
  refine m_tokenN (by omega) hP (fun σ1 hk1 hP1 => ?_)
  have h21 : σ1.1 135 2 = 0 := (hk1.2.1 2 (by decide)).trans h02
  have hR1 : RS_ D σ1 := RS_.tok hR hk1 (by decide)
  refine ax_load (q := 5) rfl rfl rfl rfl rfl ?_
  refine ax_const (q := 6) (v := am_I 0) rfl rfl rfl ?_
  refine ax_putf (q := 9) rfl rfl rfl ?_
  refine ax_load (q := 10) rfl rfl rfl rfl rfl ?_
  refine ax_const (q := 11) (v := am_I 0) rfl rfl rfl ?_
  refine ax_putf (q := 14) rfl rfl rfl ?_
  refine ax_load (q := 15) rfl rfl rfl rfl rfl ?_
  refine ax_const (q := 16) (v := am_I 0) rfl rfl rfl ?_
  refine ax_putf (q := 19) rfl rfl rfl ?_
  refine ax_load (q := 20) rfl rfl rfl rfl rfl ?_
  refine ax_const (q := 21) (v := am_I 0) rfl rfl rfl ?_
  refine ax_putf (q := 24) rfl rfl rfl ?_
  refine ax_load (q := 25) rfl rfl rfl rfl rfl ?_
  refine ax_callv (q := 28) rfl rfl rfl rfl rfl rfl ?_
  obtain ⟨σ2, hσ2⟩ : ∃ s, s = (am_sI (am_sI (am_sI (am_sI σ1 135 (am_up (σ1.1 135) 17 0)) 135 (am_up ((am_sI σ1 135 (am_up (σ1.1 135) 17 0)).1 135) 19 0)) 135 (am_up ((am_sI (am_sI σ1 135 (am_up (σ1.1 135) 17 0)) 135 (am_up ((am_sI σ1 135 (am_up (σ1.1 135) 17 0)).1 135) 19 0)).1 135) 23 0)) 135 (am_up ((am_sI (am_sI (am_sI σ1 135 (am_up (σ1.1 135) 17 0)) 135 (am_up ((am_sI σ1 135 (am_up (σ1.1 135) 17 0)).1 135) 19 0)) 135 (am_up ((am_sI (am_sI σ1 135 (am_up (σ1.1 135) 17 0)) 135 (am_up ((am_sI σ1 135 (am_up (σ1.1 135) 17 0)).1 135) 19 0)).1 135) 23 0)).1 135) 22 0)) := ⟨_, rfl⟩
  rw [← hσ2]
  have hf2 : fp_ [] [17, 19, 22, 23] [] σ1 σ2 := by rw [hσ2]; exact fp_s5 (fp_s5 (fp_s5 (fp_s5 (fp_rf _ _ _ _) (by decide)) (by decide)) (by decide)) (by decide)
  have hT : TE_ tp n D (nxp_ tp n p) [] 0 [] σ2 := by
    refine ⟨by rw [hσ2]; exact PS_s5 (PS_s5 (PS_s5 (PS_s5 hP1 (by decide)) (by decide)) (by decide)) (by decide), (hf2.2.1 2 (by decide)).trans h21, by rw [hσ2]; simp [am_sI, am_up], rfl, by rw [hσ2]; simp [am_sI, am_up, dpl_], by rw [hσ2]; simp [am_sI, am_up], ?_⟩
    refine ⟨fun a ha => ?_, fun k hk => ?_, ?_⟩
    · rw [hf2.1 a (fun q => by cases q) (fun q => by rw [q] at ha; revert ha; decide), hR1.1 a ha]
      by_cases q8 : a = 138
      · subst q8; rw [tq_138]; rfl
      · by_cases q9 : a = 139
        · subst q9; rw [tq_139]; rfl
        · rw [tq_a D 0 _ (fun q => by rw [q] at ha; revert ha; decide) q8 q9]
    · by_cases q : k = 17
      · subst q; rw [tq_17, hσ2]; simp [am_sI, am_up]
      · rw [hf2.2.1 k (by revert hk q; revert k; decide), hR1.2.1 k hk]
        by_cases q2 : k = 20
        · subst q2; rw [tq_20, hu0]; rfl
        · rw [tq_f D 0 _ q q2]
    · rw [hf2.2.2.1 137 (fun q => by cases q) (by decide), hR1.2.2, tq_a D 0 _ (by decide) (by decide) (by decide)]
  have hf : RF_ σ σ2 := RF_.tr (RF_.tr (RF_.rf σ) hk1 (by decide) (by decide) (by decide)) hf2 (by decide) (by decide) (by decide)
  refine r_unit (by omega) hT hf (by decide) (by decide) (by decide) (by decide) (fun e he x3 hf3 h0 hF => ?_) (fun r hr σ3 hf3 hT3 hA3 => ?_)
  · have hbad := FT_pos hF h0
    have hres : tea_ tp n p = Sum.inl e := sb_l he
    refine ax_const (q := 29) (v := am_I 1) rfl rfl rfl ?_
    refine ax_store (q := 30) (L' := [some (am_R 135), some (am_I 1), none]) rfl rfl rfl rfl rfl rfl ?_
    refine ax_load (q := 31) rfl rfl rfl rfl rfl ?_
    refine ax_if_eq (q := 34) (x := 157) rfl rfl (fun h => absurd h (by omega)) (fun h31 => ?_)
    refine ax_load (q := 35) rfl rfl rfl rfl rfl ?_
    refine ax_getf (q := 38) (v := am_I (x3.1 135 2)) rfl rfl (rfl) ?_
    refine ax_if_ne (q := 41) (x := 157) rfl rfl (fun h38 => ?_) (fun h => absurd h (by omega))
    refine ax_load (q := 158) rfl rfl rfl rfl rfl ?_
    refine ax_getf (q := 161) (v := am_I (x3.1 135 2)) rfl rfl (rfl) ?_
    refine ax_if_ne (q := 164) (x := 176) rfl rfl (fun h161 => ?_) (fun h => absurd h (by omega))
    refine ax_load (q := 177) rfl rfl rfl rfl rfl ?_
    refine ax_getf (q := 180) (v := am_I (x3.1 135 2)) rfl rfl (rfl) ?_
    refine ax_if_ne (q := 183) (x := 188) rfl rfl (fun h180 => ?_) (fun h => absurd h (by omega))
    refine ax_ret (r := none) rfl rfl ?_
    exact hQ.1 e (sb_l hres) _ hf3 h0 hF
  · have hst : tea_ tp n p = ml_x tp n (n + 1) r.1 r.2.1 r.2.2.1 ([] ++ [r.2.2.2]) := sb_r hr
    rw [hst] at hQ
    refine ax_const (q := 29) (v := am_I 1) rfl rfl rfl ?_
    refine ax_store (q := 30) (L' := [some (am_R 135), some (am_I 1), none]) rfl rfl rfl rfl rfl rfl ?_
    exact l_readTeach (by omega) (n + 1) _ _ _ _ none σ3 hT3 hf3 hA3 (by omega) (fun e he σ' hf' h0 hF => hQ.1 e (sb_l he) σ' hf' h0 hF) (fun r2 hr2 σ' hf' h2' hP' hR' => hQ.2 _ _ (sb_r hr2) σ' hf' h2' hP' hR')

