def nwn_ (tp : Nat → Int) (n : Nat) (g : Nat → Int) (b m : Nat) (p : Nat) : Sum (Int × Nat) Nat := if ¬ (tks_ tp n (nxp_ tp n p) = 1 ∧ own_ (tkw_ tp n (nxp_ tp n p)) = false) then Sum.inl (2, nxp_ tp n p) else if fi_ g (tkw_ tp n (nxp_ tp n p)) b m < 0 then Sum.inr (nxp_ tp n (nxp_ tp n p)) else Sum.inl (3, nxp_ tp n p)
theorem PS_sL {tp : Nat → Int} {n p : Nat} {σ : am_S} (h : PS_ tp n p σ) (f : Nat → Int) : PS_ tp n p (am_sL σ 137 f) :=
  ⟨⟨h.1.1, h.1.2.1, h.1.2.2.1, h.1.2.2.2.1, by rw [sL_ne (by decide)]; exact h.1.2.2.2.2⟩, h.2.1, h.2.2.1, h.2.2.2⟩

theorem r_option {d : Nat} (hd : 5 ≤ d) {σ : am_S} {tp : Nat → Int} {n p : Nat} (hP : PS_ tp n p σ) (h02 : σ.1 135 2 = 0) {w x y z : Int} {Q : Option am_V → am_S → Prop} (hQ : RI_ tp n (opt_ tp n w x y z p) σ Q) : am_Ev d 154 [am_R 135, am_J w, am_I x, am_I y, am_I z] σ Q := by
  obtain ⟨d, rfl⟩ : ∃ e, d = e + 1 := ⟨d - 1, by omega⟩
  have k6 := hP.1.2.1
  have k9 := hP.1.2.2.2.2
  refine ev_in (m := 154) (c := k_X9_option) (L := [some (am_R 135), some (am_J w), none, some (am_I x), some (am_I y), some (am_I z)]) rfl rfl rfl rfl rfl rfl ?_
  refine ax_load (q := 1) rfl rfl rfl rfl rfl ?_
  refine ax_getf (q := 4) (v := am_I 0) rfl rfl (am_fg rfl h02) ?_
  refine ax_if_ne (q := 7) (x := 26) rfl rfl (fun h => absurd h (by omega)) (fun h4 => ?_)
  refine ax_load (q := 8) rfl rfl rfl rfl rfl ?_
  refine ax_load (q := 9) rfl rfl rfl rfl rfl ?_
  refine ax_callv (q := 12) rfl rfl rfl rfl rfl rfl ?_
  refine m_isWord (by omega) ?_
  rw [k6, k9]
  refine ax_if_eq (q := 15) (x := 26) rfl rfl (fun h12 => ?_) (fun h12 => ?_)
  · have hb12 := it_0 h12
    refine ax_load (q := 28) rfl rfl rfl rfl rfl ?_
    refine ax_ret (r := some (am_I z)) rfl rfl ?_
    exact hQ.2 z p (if_neg (of_decide_eq_false hb12)) σ (fp_rf _ _ _ _) h02 hP
  · have hb12 := it_n0 h12
    refine ax_load (q := 16) rfl rfl rfl rfl rfl ?_
    refine ax_load (q := 17) rfl rfl rfl rfl rfl ?_
    refine ax_load (q := 18) rfl rfl rfl rfl rfl ?_
    refine ax_load (q := 20) rfl rfl rfl rfl rfl ?_
    refine ax_callv (q := 23) rfl rfl rfl rfl rfl rfl ?_
    have hw := of_decide_eq_true hb12
    have e : tol_ tp n w x y p = opt_ tp n w x y z p := (if_pos hw).trans (if_pos hw).symm
    rw [← e] at hQ
    refine r_told (by omega) hP h02 ⟨fun e he σ2 v hf2 h0 hF => ?_, fun a p2 ha σ2 hf2 h22 hP2 => ?_⟩
    · refine ax_goto (x := 28) rfl ?_
      refine ax_ret (r := some (am_I v)) rfl rfl ?_
      exact hQ.1 e he σ2 v hf2 h0 hF
    · refine ax_goto (x := 28) rfl ?_
      refine ax_ret (r := some (am_I a)) rfl rfl ?_
      exact hQ.2 a p2 ha σ2 hf2 h22 hP2

theorem r_newName {d : Nat} (hd : 3 ≤ d) {σ : am_S} {tp : Nat → Int} {n p : Nat} (hP : PS_ tp n p σ) (h02 : σ.1 135 2 = 0) {g : Nat → Int} (hg : σ.2.1 137 = g) {b m : Nat} (hbm : b + m < 21) {Q : Option am_V → am_S → Prop} (hN : ∀ e, nwn_ tp n g b m p = Sum.inl e → ∀ σ', fp_ [] pf_ [] σ σ' → 0 < e.1 → FT_ tp n e σ' → Q none σ') (hY : ∀ p', nwn_ tp n g b m p = Sum.inr p' → ∀ σ', fp_ [] pf_ [137] σ σ' → σ'.1 135 2 = 0 → PS_ tp n p' σ' → σ'.2.1 137 = am_up g (b + m) (tkw_ tp n (nxp_ tp n p)) → Q none σ') : am_Ev d 156 [am_R 135, am_I ((b : Nat) : Int), am_I ((m : Nat) : Int)] σ Q := by
  obtain ⟨d, rfl⟩ : ∃ e, d = e + 1 := ⟨d - 1, by omega⟩
  obtain ⟨p1, hp1⟩ : ∃ q, q = nxp_ tp n p := ⟨_, rfl⟩
  unfold nwn_ at hN hY
  rw [← hp1] at hN hY
  have hfb := fi_bd g (tkw_ tp n p1) b m
  refine ev_in (m := 156) (c := k_X9_newName) (L := [some (am_R 135), some (am_I ((b : Nat) : Int)), some (am_I ((m : Nat) : Int))]) rfl rfl rfl rfl rfl rfl ?_
  refine ax_load (q := 1) rfl rfl rfl rfl rfl ?_
  refine ax_callv (q := 4) rfl rfl rfl rfl rfl rfl ?_
  refine m_tokenN (by omega) hP (fun σ1 hf1 hP1 => ?_)
  rw [← hp1] at hP1
  have h021 : σ1.1 135 2 = 0 := by rw [hf1.2.1 2 (by decide)]; exact h02
  have hg1 : σ1.2.1 137 = g := by rw [hf1.2.2.1 137 (by decide) (by decide)]; exact hg
  have k6 := hP1.1.2.1
  have k9 := hP1.1.2.2.2.2
  have hff : fp_ [] pf_ [] σ σ1 := fp_tr (fp_rf _ _ _ _) hf1 (by decide) (by decide) (by decide)
  refine ax_load (q := 5) rfl rfl rfl rfl rfl ?_
  refine ax_callv (q := 8) rfl rfl rfl rfl rfl rfl ?_
  refine m_isName (by omega) ?_
  rw [k6, k9]
  refine ax_if_ne (q := 11) (x := 19) rfl rfl (fun h8 => ?_) (fun h8 => ?_)
  · have hb8 := it_n0 h8
    refine ax_load (q := 20) rfl rfl rfl rfl rfl ?_
    refine ax_load (q := 21) rfl rfl rfl rfl rfl ?_
    refine ax_load (q := 22) rfl rfl rfl rfl rfl ?_
    refine ax_callv (q := 25) rfl rfl rfl rfl rfl rfl ?_
    refine m_find (by omega) hg1 k9 (by omega) ?_
    refine ax_if_lt (q := 28) (x := 33) rfl rfl (fun h25 => ?_) (fun h25 => ?_)
    · refine ax_load (q := 34) rfl rfl rfl rfl rfl ?_
      refine ax_getf (q := 37) (v := am_I 0) rfl rfl (am_fg rfl h021) ?_
      refine ax_if_le (q := 40) (x := 41) rfl rfl (fun h37 => ?_) (fun h => absurd h (by omega))
      refine ax_load (q := 42) rfl rfl rfl rfl rfl ?_
      refine ax_getf (q := 45) (v := am_R 137) rfl rfl (rfl) ?_
      refine ax_load (q := 46) rfl rfl rfl rfl rfl ?_
      refine ax_load (q := 47) rfl rfl rfl rfl rfl ?_
      refine ax_iadd (q := 48) (z := ((b + m : Nat) : Int)) rfl rfl (am_we (by omega) (by omega) (by omega)) ?_
      refine ax_load (q := 49) rfl rfl rfl rfl rfl ?_
      refine ax_getf (q := 52) (v := am_J (tkw_ tp n p1)) rfl rfl (am_fgJ rfl k9) ?_
      refine bx_last (q := 53) (k := b + m) rfl rfl (rfl) (by omega) (by omega) ?_
      refine ax_load (q := 54) rfl rfl rfl rfl rfl ?_
      refine ax_callv (q := 57) rfl rfl rfl rfl rfl rfl ?_
      refine m_tokenN (by omega) (PS_sL hP1 _) (fun σ2 hf2 hP2 => ?_)
      refine ax_ret (r := none) rfl rfl ?_
      have hnm : tks_ tp n p1 = 1 ∧ own_ (tkw_ tp n p1) = false := by simpa using hb8
      exact hY _ (by rw [if_neg (fun q => q hnm), if_pos (by omega)]) σ2 (fp_tr (fp_sL (fp_tr (fp_rf _ _ _ _) hff (by decide) (by decide) (by decide)) (by decide) (by decide)) hf2 (by decide) (by decide) (by decide)) (by rw [hf2.2.1 2 (by decide)]; exact h021) hP2 (by rw [hf2.2.2.1 137 (by decide) (by decide), sL_at, hg1])
    · refine ax_load (q := 29) rfl rfl rfl rfl rfl ?_
      refine ax_const (q := 30) (v := am_I 3) rfl rfl rfl ?_
      refine ax_callv (q := 33) rfl rfl rfl rfl rfl rfl ?_
      refine m_wrong (by omega) ?_
      rw [if_neg (by rw [h021]; decide)]
      refine ax_load (q := 34) rfl rfl rfl rfl rfl ?_
      refine ax_getf (q := 37) (v := am_I ((wr_ σ1 3).1 135 2)) rfl rfl (rfl) ?_
      refine ax_if_le (q := 40) (x := 41) rfl rfl (fun h => absurd h (by have := wr_2 σ1 (z := 3) (by decide); omega)) (fun h37 => ?_)
      refine ax_ret (r := none) rfl rfl ?_
      have hnm : tks_ tp n p1 = 1 ∧ own_ (tkw_ tp n p1) = false := by simpa using hb8
      exact hN (3, p1) (by rw [if_neg (fun q => q hnm), if_neg (by omega)]) _ (fp_wr hff (by decide) (by decide)) (by show (0 : Int) < 3; decide) (FT_wr hP1 3)
  · have hb8 := it_0 h8
    refine ax_load (q := 12) rfl rfl rfl rfl rfl ?_
    refine ax_const (q := 13) (v := am_I 2) rfl rfl rfl ?_
    refine ax_callv (q := 16) rfl rfl rfl rfl rfl rfl ?_
    refine m_wrong (by omega) ?_
    rw [if_neg (by rw [h021]; decide)]
    refine ax_goto (x := 33) rfl ?_
    refine ax_load (q := 34) rfl rfl rfl rfl rfl ?_
    refine ax_getf (q := 37) (v := am_I ((wr_ σ1 2).1 135 2)) rfl rfl (rfl) ?_
    refine ax_if_le (q := 40) (x := 41) rfl rfl (fun h => absurd h (by have := wr_2 σ1 (z := 2) (by decide); omega)) (fun h37 => ?_)
    refine ax_ret (r := none) rfl rfl ?_
    exact hN (2, p1) (if_pos (fun q => by rw [decide_eq_true q.1, q.2] at hb8; cases hb8)) _ (fp_wr hff (by decide) (by decide)) (by show (0 : Int) < 2; decide) (FT_wr hP1 2)

