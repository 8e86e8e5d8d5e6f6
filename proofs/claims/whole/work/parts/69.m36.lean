theorem old_in {tp : Nat → Int} {n : Nat} {g : Nat → Int} {b m p : Nat} {a : Int} {p' : Nat} (h : old_ tp n g b m p = Sum.inr (a, p')) : p' = p ∧ ∃ k : Nat, a = (k : Int) ∧ k < m := by
  have hb := fi_bd g (tkw_ tp n p) b m
  unfold old_ at h
  split at h
  · cases h
  · split at h
    · cases h
    · injection h with h
      injection h with h1 h2
      exact ⟨h2.symm, a.toNat, by omega, by omega⟩
/-- what a line of odds tells: the place and its chances -/
def odd_ (tp : Nat → Int) (n : Nat) (g f : Nat → Int) (nR nO p : Nat) : sp_R × Nat := match old_ tp n g 12 nR (nxp_ tp n p) with
  | Sum.inl e => (Sum.inl e, 0)
  | Sum.inr (a, _) => match old_ tp n g 4 nO (nxp_ tp n (nxp_ tp n p)) with
    | Sum.inl e => (Sum.inl e, 0)
    | Sum.inr (b, _) => if 0 < f (8 * a.toNat + b.toNat) then (Sum.inl (3, nxp_ tp n (nxp_ tp n p)), 0) else (num_ tp n 1 9 (nxp_ tp n (nxp_ tp n (nxp_ tp n p))), 8 * a.toNat + b.toNat)

theorem r_readOdds {d : Nat} (hd : 5 ≤ d) {σ : am_S} {tp : Nat → Int} {n p : Nat} (hP : PS_ tp n p σ) (h02 : σ.1 135 2 = 0) {g f : Nat → Int} (hg : σ.2.1 137 = g) (hf157 : σ.1 157 = f) {nR nO : Nat} (hnR : σ.1 135 45 = (nR : Int)) (hnO : σ.1 135 44 = (nO : Int)) (hR3 : nR ≤ 3) (hO8 : nO ≤ 8) {Q : Option am_V → am_S → Prop} (hN : ∀ e, (odd_ tp n g f nR nO p).1 = Sum.inl e → ∀ σ', fp_ [] pf_ [] σ σ' → 0 < e.1 → FT_ tp n e σ' → Q none σ') (hY : ∀ v p', (odd_ tp n g f nR nO p).1 = Sum.inr (v, p') → ∀ σ', fp_ [157] pf_ [] σ σ' → σ'.1 135 2 = 0 → PS_ tp n p' σ' → σ'.1 157 = am_up f (odd_ tp n g f nR nO p).2 v → Q none σ') : am_Ev d 177 [am_R 135] σ Q := by
  obtain ⟨d, rfl⟩ : ∃ e, d = e + 1 := ⟨d - 1, by omega⟩
  refine ev_in (m := 177) (c := k_X9_readOdds) (L := [some (am_R 135), none, none, none]) rfl rfl rfl rfl rfl rfl ?_
  refine ax_load (q := 1) rfl rfl rfl rfl rfl ?_
  refine ax_callv (q := 4) rfl rfl rfl rfl rfl rfl ?_
  refine m_tokenN (by omega) hP (fun σa hka hPa => ?_)
  have hfa : fp_ [] pf_ [] σ σa := fp_tr (fp_rf [] pf_ [] σ) hka (by decide) (by decide) (by decide)
  have h2a : σa.1 135 2 = 0 := (hka.2.1 2 (by decide)).trans h02
  have hga : σa.2.1 137 = g := (hka.2.2.1 137 (by decide) (by decide)).trans hg
  refine ax_load (q := 5) rfl rfl rfl rfl rfl ?_
  refine ax_const (q := 7) (v := am_I 12) rfl rfl rfl ?_
  refine ax_load (q := 8) rfl rfl rfl rfl rfl ?_
  refine ax_getf (q := 11) (v := am_I ((nR : Nat) : Int)) rfl rfl (am_fg rfl (((hfa).2.1 45 (by decide)).trans hnR)) ?_
  refine ax_callv (q := 14) rfl rfl rfl rfl rfl rfl ?_
  refine r_oldName (b := 12) (m := nR) (by omega) hPa h2a hga (by omega) ⟨fun e he x1 v hk h0 hF => ?_, fun aA pA heA σ1 hk h21 hP1 => ?_⟩
  · have hbad := FT_pos hF h0
    have hfx : fp_ [] pf_ [] σ x1 := fp_tr hfa hk (by decide) (by decide) (by decide)
    have hres : (odd_ tp n g f nR nO p).1 = Sum.inl e := by unfold odd_; rw [he]
    refine ax_store (q := 15) (L' := [some (am_R 135), some (am_I v), none, none]) rfl rfl rfl rfl rfl rfl ?_
    refine ax_load (q := 16) rfl rfl rfl rfl rfl ?_
    refine ax_getf (q := 19) (v := am_I (x1.1 135 2)) rfl rfl (rfl) ?_
    refine ax_if_ne (q := 22) (x := 26) rfl rfl (fun h19 => ?_) (fun h => absurd h (by omega))
    refine ax_load (q := 27) rfl rfl rfl rfl rfl ?_
    refine ax_const (q := 28) (v := am_I 4) rfl rfl rfl ?_
    refine ax_load (q := 29) rfl rfl rfl rfl rfl ?_
    refine ax_getf (q := 32) (v := am_I ((nO : Nat) : Int)) rfl rfl (am_fg rfl (((hfx).2.1 44 (by decide)).trans hnO)) ?_
    refine ax_callv (q := 35) rfl rfl rfl rfl rfl rfl ?_
    refine z_oldName (by omega) hbad ?_
    refine ax_store (q := 36) (L' := [some (am_R 135), some (am_I v), some (am_I 0), none]) rfl rfl rfl rfl rfl rfl ?_
    refine ax_load (q := 37) rfl rfl rfl rfl rfl ?_
    refine ax_getf (q := 40) (v := am_I (x1.1 135 2)) rfl rfl (rfl) ?_
    refine ax_if_ne (q := 43) (x := 62) rfl rfl (fun h40 => ?_) (fun h => absurd h (by omega))
    refine ax_load (q := 63) rfl rfl rfl rfl rfl ?_
    refine ax_getf (q := 66) (v := am_I (x1.1 135 2)) rfl rfl (rfl) ?_
    refine ax_if_ne (q := 69) (x := 73) rfl rfl (fun h66 => ?_) (fun h => absurd h (by omega))
    refine ax_load (q := 74) rfl rfl rfl rfl rfl ?_
    refine ax_const (q := 75) (v := am_I 1) rfl rfl rfl ?_
    refine ax_const (q := 77) (v := am_I 9) rfl rfl rfl ?_
    refine ax_callv (q := 80) rfl rfl rfl rfl rfl rfl ?_
    refine z_toldNumber (by omega) hbad ?_
    refine ax_store (q := 81) (L' := [some (am_R 135), some (am_I v), some (am_I 0), some (am_I 0)]) rfl rfl rfl rfl rfl rfl ?_
    refine ax_load (q := 82) rfl rfl rfl rfl rfl ?_
    refine ax_getf (q := 85) (v := am_I (x1.1 135 2)) rfl rfl (rfl) ?_
    refine ax_if_ne (q := 88) (x := 100) rfl rfl (fun h85 => ?_) (fun h => absurd h (by omega))
    refine ax_ret (r := none) rfl rfl ?_
    exact hN _ hres x1 hfx h0 hF
  · obtain ⟨rfl, A, rfl, hlA⟩ := old_in heA
    have hf1 : fp_ [] pf_ [] σ σ1 := fp_tr hfa hk (by decide) (by decide) (by decide)
    have hg1 : σ1.2.1 137 = g := (hk.2.2.1 137 (by decide) (by decide)).trans hga
    refine ax_store (q := 15) (L' := [some (am_R 135), some (am_I ((A : Nat) : Int)), none, none]) rfl rfl rfl rfl rfl rfl ?_
    refine ax_load (q := 16) rfl rfl rfl rfl rfl ?_
    refine ax_getf (q := 19) (v := am_I 0) rfl rfl (am_fg rfl h21) ?_
    refine ax_if_ne (q := 22) (x := 26) rfl rfl (fun h => absurd h (by omega)) (fun h19 => ?_)
    refine ax_load (q := 23) rfl rfl rfl rfl rfl ?_
    refine ax_callv (q := 26) rfl rfl rfl rfl rfl rfl ?_
    refine m_tokenN (by omega) hP1 (fun σb hkb hPb => ?_)
    have hfb : fp_ [] pf_ [] σ σb := fp_tr (hf1) hkb (by decide) (by decide) (by decide)
    have h2b : σb.1 135 2 = 0 := (hkb.2.1 2 (by decide)).trans h21
    have hgb : σb.2.1 137 = g := (hkb.2.2.1 137 (by decide) (by decide)).trans hg1
    refine ax_load (q := 27) rfl rfl rfl rfl rfl ?_
    refine ax_const (q := 28) (v := am_I 4) rfl rfl rfl ?_
    refine ax_load (q := 29) rfl rfl rfl rfl rfl ?_
    refine ax_getf (q := 32) (v := am_I ((nO : Nat) : Int)) rfl rfl (am_fg rfl (((hfb).2.1 44 (by decide)).trans hnO)) ?_
    refine ax_callv (q := 35) rfl rfl rfl rfl rfl rfl ?_
    refine r_oldName (b := 4) (m := nO) (by omega) hPb h2b hgb (by omega) ⟨fun e he x2 v hk h0 hF => ?_, fun aB pB heB σ2 hk h22 hP2 => ?_⟩
    · have hbad := FT_pos hF h0
      have hfx : fp_ [] pf_ [] σ x2 := fp_tr hfb hk (by decide) (by decide) (by decide)
      have hres : (odd_ tp n g f nR nO p).1 = Sum.inl e := by unfold odd_; rw [heA, he]
      refine ax_store (q := 36) (L' := [some (am_R 135), some (am_I ((A : Nat) : Int)), some (am_I v), none]) rfl rfl rfl rfl rfl rfl ?_
      refine ax_load (q := 37) rfl rfl rfl rfl rfl ?_
      refine ax_getf (q := 40) (v := am_I (x2.1 135 2)) rfl rfl (rfl) ?_
      refine ax_if_ne (q := 43) (x := 62) rfl rfl (fun h40 => ?_) (fun h => absurd h (by omega))
      refine ax_load (q := 63) rfl rfl rfl rfl rfl ?_
      refine ax_getf (q := 66) (v := am_I (x2.1 135 2)) rfl rfl (rfl) ?_
      refine ax_if_ne (q := 69) (x := 73) rfl rfl (fun h66 => ?_) (fun h => absurd h (by omega))
      refine ax_load (q := 74) rfl rfl rfl rfl rfl ?_
      refine ax_const (q := 75) (v := am_I 1) rfl rfl rfl ?_
      refine ax_const (q := 77) (v := am_I 9) rfl rfl rfl ?_
      refine ax_callv (q := 80) rfl rfl rfl rfl rfl rfl ?_
      refine z_toldNumber (by omega) hbad ?_
      refine ax_store (q := 81) (L' := [some (am_R 135), some (am_I ((A : Nat) : Int)), some (am_I v), some (am_I 0)]) rfl rfl rfl rfl rfl rfl ?_
      refine ax_load (q := 82) rfl rfl rfl rfl rfl ?_
      refine ax_getf (q := 85) (v := am_I (x2.1 135 2)) rfl rfl (rfl) ?_
      refine ax_if_ne (q := 88) (x := 100) rfl rfl (fun h85 => ?_) (fun h => absurd h (by omega))
      refine ax_ret (r := none) rfl rfl ?_
      exact hN _ hres x2 hfx h0 hF
    · obtain ⟨rfl, B, rfl, hlB⟩ := old_in heB
      have hf2 : fp_ [] pf_ [] σ σ2 := fp_tr hfb hk (by decide) (by decide) (by decide)
      have hg2 : σ2.2.1 137 = g := (hk.2.2.1 137 (by decide) (by decide)).trans hgb
      refine ax_store (q := 36) (L' := [some (am_R 135), some (am_I ((A : Nat) : Int)), some (am_I ((B : Nat) : Int)), none]) rfl rfl rfl rfl rfl rfl ?_
      refine ax_load (q := 37) rfl rfl rfl rfl rfl ?_
      refine ax_getf (q := 40) (v := am_I 0) rfl rfl (am_fg rfl h22) ?_
      refine ax_if_ne (q := 43) (x := 62) rfl rfl (fun h => absurd h (by omega)) (fun h40 => ?_)
      refine ax_load (q := 44) rfl rfl rfl rfl rfl ?_
      refine ax_getf (q := 47) (v := am_R 157) rfl rfl (rfl) ?_
      refine ax_const (q := 49) (v := am_I 8) rfl rfl rfl ?_
      refine ax_load (q := 50) rfl rfl rfl rfl rfl ?_
      refine ax_imul (q := 51) (z := ((8 * A : Nat) : Int)) rfl rfl (am_we (by omega) (by omega) (by omega)) ?_
      refine ax_load (q := 52) rfl rfl rfl rfl rfl ?_
      refine ax_iadd (q := 53) (z := (((8 * A) + B : Nat) : Int)) rfl rfl (am_we (by omega) (by omega) (by omega)) ?_
      refine bx_iald (q := 54) (k := (8 * A) + B) (z := f (8 * A + B)) rfl rfl (rfl) (by omega) (by omega) (congrFun ((hf2.1 157 (by decide) (by decide)).trans hf157) _) ?_
      refine ax_if_le (q := 57) (x := 62) rfl rfl (fun h54 => ?_) (fun h54 => ?_)
      · refine ax_load (q := 63) rfl rfl rfl rfl rfl ?_
        refine ax_getf (q := 66) (v := am_I 0) rfl rfl (am_fg rfl h22) ?_
        refine ax_if_ne (q := 69) (x := 73) rfl rfl (fun h => absurd h (by omega)) (fun h66 => ?_)
        refine ax_load (q := 70) rfl rfl rfl rfl rfl ?_
        refine ax_callv (q := 73) rfl rfl rfl rfl rfl rfl ?_
        refine m_tokenN (by omega) hP2 (fun σc hkc hPc => ?_)
        have hfc : fp_ [] pf_ [] σ σc := fp_tr (hf2) hkc (by decide) (by decide) (by decide)
        have h2c : σc.1 135 2 = 0 := (hkc.2.1 2 (by decide)).trans h22
        have hgc : σc.2.1 137 = g := (hkc.2.2.1 137 (by decide) (by decide)).trans hg2
        refine ax_load (q := 74) rfl rfl rfl rfl rfl ?_
        refine ax_const (q := 75) (v := am_I 1) rfl rfl rfl ?_
        refine ax_const (q := 77) (v := am_I 9) rfl rfl rfl ?_
        refine ax_callv (q := 80) rfl rfl rfl rfl rfl rfl ?_
        refine r_toldNumber (by omega) hPc h2c ⟨fun e he x4 v hk h0 hF => ?_, fun v pD heD σd hk h2d hPd => ?_⟩
        · have hbad := FT_pos hF h0
          have hfx : fp_ [] pf_ [] σ x4 := fp_tr hfc hk (by decide) (by decide) (by decide)
          have hres : (odd_ tp n g f nR nO p).1 = Sum.inl e := by unfold odd_; rw [heA]; dsimp only; rw [heB]; dsimp only; rw [if_neg (by simpa using h54)]; exact he
          refine ax_store (q := 81) (L' := [some (am_R 135), some (am_I ((A : Nat) : Int)), some (am_I ((B : Nat) : Int)), some (am_I v)]) rfl rfl rfl rfl rfl rfl ?_
          refine ax_load (q := 82) rfl rfl rfl rfl rfl ?_
          refine ax_getf (q := 85) (v := am_I (x4.1 135 2)) rfl rfl (rfl) ?_
          refine ax_if_ne (q := 88) (x := 100) rfl rfl (fun h85 => ?_) (fun h => absurd h (by omega))
          refine ax_ret (r := none) rfl rfl ?_
          exact hN _ hres x4 hfx h0 hF
        · have hfd : fp_ [] pf_ [] σ σd := fp_tr hfc hk (by decide) (by decide) (by decide)
          refine ax_store (q := 81) (L' := [some (am_R 135), some (am_I ((A : Nat) : Int)), some (am_I ((B : Nat) : Int)), some (am_I v)]) rfl rfl rfl rfl rfl rfl ?_
          refine ax_load (q := 82) rfl rfl rfl rfl rfl ?_
          refine ax_getf (q := 85) (v := am_I 0) rfl rfl (am_fg rfl h2d) ?_
          refine ax_if_ne (q := 88) (x := 100) rfl rfl (fun h => absurd h (by omega)) (fun h85 => ?_)
          refine ax_load (q := 89) rfl rfl rfl rfl rfl ?_
          refine ax_getf (q := 92) (v := am_R 157) rfl rfl (rfl) ?_
          refine ax_const (q := 94) (v := am_I 8) rfl rfl rfl ?_
          refine ax_load (q := 95) rfl rfl rfl rfl rfl ?_
          refine ax_imul (q := 96) (z := ((8 * A : Nat) : Int)) rfl rfl (am_we (by omega) (by omega) (by omega)) ?_
          refine ax_load (q := 97) rfl rfl rfl rfl rfl ?_
          refine ax_iadd (q := 98) (z := (((8 * A) + B : Nat) : Int)) rfl rfl (am_we (by omega) (by omega) (by omega)) ?_
          refine ax_load (q := 99) rfl rfl rfl rfl rfl ?_
          refine bx_iast (q := 100) (k := (8 * A) + B) rfl rfl (rfl) (by omega) (by omega) ?_
          refine ax_ret (r := none) rfl rfl ?_
          have hod : odd_ tp n g f nR nO p = (num_ tp n 1 9 (nxp_ tp n (nxp_ tp n (nxp_ tp n p))), 8 * A + B) := by unfold odd_; rw [heA]; dsimp only; rw [heB]; dsimp only; rw [if_neg (by simpa using h54)]; rfl
          rw [hod] at hY
          exact hY v pD heD _ (fp_sI (fp_tr (fp_rf _ _ _ _) hfd (by decide) (by decide) (by decide)) (by decide) (by decide)) (by rw [sI_ne (by decide)]; exact h2d) (PS_sI hPd (by decide) (by decide)) (by rw [sI_at, hfd.1 157 (by decide) (by decide), hf157])
      · refine ax_load (q := 58) rfl rfl rfl rfl rfl ?_
        refine ax_const (q := 59) (v := am_I 3) rfl rfl rfl ?_
        refine ax_callv (q := 62) rfl rfl rfl rfl rfl rfl ?_
        refine m_wrong (by omega) ?_
        rw [if_neg (by rw [h22]; decide)]
        obtain ⟨x3, hx3⟩ : ∃ s, s = wr_ σ2 3 := ⟨_, rfl⟩
        rw [← hx3]
        have hbad : 0 < x3.1 135 2 := by rw [hx3]; exact wr_2 σ2 (by decide)
        have hfx : fp_ [] pf_ [] σ x3 := by rw [hx3]; exact fp_wr hf2 (by decide) (by decide)
        have hF : FT_ tp n (3, nxp_ tp n (nxp_ tp n p)) x3 := by rw [hx3]; exact FT_wr hP2 3
        have h0 : (0 : Int) < 3 := by decide
        have hres : (odd_ tp n g f nR nO p).1 = Sum.inl (3, nxp_ tp n (nxp_ tp n p)) := by unfold odd_; rw [heA]; dsimp only; rw [heB]; dsimp only; rw [if_pos (by simpa using h54)]
        refine ax_load (q := 63) rfl rfl rfl rfl rfl ?_
        refine ax_getf (q := 66) (v := am_I (x3.1 135 2)) rfl rfl (rfl) ?_
        refine ax_if_ne (q := 69) (x := 73) rfl rfl (fun h66 => ?_) (fun h => absurd h (by omega))
        refine ax_load (q := 74) rfl rfl rfl rfl rfl ?_
        refine ax_const (q := 75) (v := am_I 1) rfl rfl rfl ?_
        refine ax_const (q := 77) (v := am_I 9) rfl rfl rfl ?_
        refine ax_callv (q := 80) rfl rfl rfl rfl rfl rfl ?_
        refine z_toldNumber (by omega) hbad ?_
        refine ax_store (q := 81) (L' := [some (am_R 135), some (am_I ((A : Nat) : Int)), some (am_I ((B : Nat) : Int)), some (am_I 0)]) rfl rfl rfl rfl rfl rfl ?_
        refine ax_load (q := 82) rfl rfl rfl rfl rfl ?_
        refine ax_getf (q := 85) (v := am_I (x3.1 135 2)) rfl rfl (rfl) ?_
        refine ax_if_ne (q := 88) (x := 100) rfl rfl (fun h85 => ?_) (fun h => absurd h (by omega))
        refine ax_ret (r := none) rfl rfl ?_
        exact hN _ hres x3 hfx h0 hF

