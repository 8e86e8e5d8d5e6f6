/-- what a line of undoing tells -/
def und_ (tp : Nat → Int) (n : Nat) (g f : Nat → Int) (nO p : Nat) : Sum (Int × Nat) Nat × Nat × Nat := match old_ tp n g 4 nO (nxp_ tp n p) with
  | Sum.inl e => (Sum.inl e, 0, 0)
  | Sum.inr (a, _) => match old_ tp n g 4 nO (nxp_ tp n (nxp_ tp n p)) with
    | Sum.inl e => (Sum.inl e, 0, 0)
    | Sum.inr (b, _) => if a = b ∨ (f a.toNat).toNat.testBit b.toNat = true then (Sum.inl (3, nxp_ tp n (nxp_ tp n p)), 0, 0) else (Sum.inr (nxp_ tp n (nxp_ tp n (nxp_ tp n p))), a.toNat, b.toNat)

theorem r_readUndoes {d : Nat} (hd : 5 ≤ d) {σ : am_S} {tp : Nat → Int} {n p : Nat} (hP : PS_ tp n p σ) (h02 : σ.1 135 2 = 0) {g f : Nat → Int} (hg : σ.2.1 137 = g) (hf150 : σ.1 150 = f) (hbd : ∀ i, i < 8 → 0 ≤ f i ∧ f i ≤ 255) {nO k : Nat} (hnO : σ.1 135 44 = (nO : Int)) (hO8 : nO ≤ 8) (hk47 : σ.1 135 47 = (k : Int)) (hk8 : k < 8) {Q : Option am_V → am_S → Prop} (hN : ∀ e, (und_ tp n g f nO p).1 = Sum.inl e → ∀ σ', fp_ [] pf_ [] σ σ' → 0 < e.1 → FT_ tp n e σ' → Q none σ') (hY : ∀ p', (und_ tp n g f nO p).1 = Sum.inr p' → ∀ σ', fp_ [150] (47 :: pf_) [] σ σ' → σ'.1 135 2 = 0 → PS_ tp n p' σ' → σ'.1 150 = am_up f (und_ tp n g f nO p).2.1 (((f (und_ tp n g f nO p).2.1).toNat ||| 2 ^ (und_ tp n g f nO p).2.2 : Nat) : Int) → σ'.1 135 47 = ((k + 1 : Nat) : Int) → Q none σ') : am_Ev d 179 [am_R 135] σ Q := by
  obtain ⟨d, rfl⟩ : ∃ e, d = e + 1 := ⟨d - 1, by omega⟩
  refine ev_in (m := 179) (c := k_X9_readUndoes) (L := [some (am_R 135), none, none]) rfl rfl rfl rfl rfl rfl ?_
  refine ax_load (q := 1) rfl rfl rfl rfl rfl ?_
  refine ax_callv (q := 4) rfl rfl rfl rfl rfl rfl ?_
  refine m_tokenN (by omega) hP (fun σa hka hPa => ?_)
  have hfa : fp_ [] pf_ [] σ σa := fp_tr (fp_rf [] pf_ [] σ) hka (by decide) (by decide) (by decide)
  have h2a : σa.1 135 2 = 0 := (hka.2.1 2 (by decide)).trans h02
  have hga : σa.2.1 137 = g := (hka.2.2.1 137 (by decide) (by decide)).trans hg
  refine ax_load (q := 5) rfl rfl rfl rfl rfl ?_
  refine ax_const (q := 6) (v := am_I 4) rfl rfl rfl ?_
  refine ax_load (q := 7) rfl rfl rfl rfl rfl ?_
  refine ax_getf (q := 10) (v := am_I ((nO : Nat) : Int)) rfl rfl (am_fg rfl (((hfa).2.1 44 (by decide)).trans hnO)) ?_
  refine ax_callv (q := 13) rfl rfl rfl rfl rfl rfl ?_
  refine r_oldName (b := 4) (m := nO) (by omega) hPa h2a hga (by omega) ⟨fun e he x1 v hk h0 hF => ?_, fun aA pA heA σ1 hk h21 hP1 => ?_⟩
  · have hbad := FT_pos hF h0
    have hfx : fp_ [] pf_ [] σ x1 := fp_tr hfa hk (by decide) (by decide) (by decide)
    have hres : (und_ tp n g f nO p).1 = Sum.inl e := by unfold und_; rw [he]
    refine ax_store (q := 14) (L' := [some (am_R 135), some (am_I v), none]) rfl rfl rfl rfl rfl rfl ?_
    refine ax_load (q := 15) rfl rfl rfl rfl rfl ?_
    refine ax_getf (q := 18) (v := am_I (x1.1 135 2)) rfl rfl (rfl) ?_
    refine ax_if_ne (q := 21) (x := 25) rfl rfl (fun h18 => ?_) (fun h => absurd h (by omega))
    refine ax_load (q := 26) rfl rfl rfl rfl rfl ?_
    refine ax_const (q := 27) (v := am_I 4) rfl rfl rfl ?_
    refine ax_load (q := 28) rfl rfl rfl rfl rfl ?_
    refine ax_getf (q := 31) (v := am_I ((nO : Nat) : Int)) rfl rfl (am_fg rfl (((hfx).2.1 44 (by decide)).trans hnO)) ?_
    refine ax_callv (q := 34) rfl rfl rfl rfl rfl rfl ?_
    refine z_oldName (by omega) hbad ?_
    refine ax_store (q := 35) (L' := [some (am_R 135), some (am_I v), some (am_I 0)]) rfl rfl rfl rfl rfl rfl ?_
    refine ax_load (q := 36) rfl rfl rfl rfl rfl ?_
    refine ax_getf (q := 39) (v := am_I (x1.1 135 2)) rfl rfl (rfl) ?_
    refine ax_if_ne (q := 42) (x := 66) rfl rfl (fun h39 => ?_) (fun h => absurd h (by omega))
    refine ax_load (q := 67) rfl rfl rfl rfl rfl ?_
    refine ax_getf (q := 70) (v := am_I (x1.1 135 2)) rfl rfl (rfl) ?_
    refine ax_if_le (q := 73) (x := 74) rfl rfl (fun h => absurd h (by omega)) (fun h70 => ?_)
    refine ax_ret (r := none) rfl rfl ?_
    exact hN _ hres x1 hfx h0 hF
  · obtain ⟨rfl, A, rfl, hlA⟩ := old_in heA
    have hf1 : fp_ [] pf_ [] σ σ1 := fp_tr hfa hk (by decide) (by decide) (by decide)
    have hg1 : σ1.2.1 137 = g := (hk.2.2.1 137 (by decide) (by decide)).trans hga
    refine ax_store (q := 14) (L' := [some (am_R 135), some (am_I ((A : Nat) : Int)), none]) rfl rfl rfl rfl rfl rfl ?_
    refine ax_load (q := 15) rfl rfl rfl rfl rfl ?_
    refine ax_getf (q := 18) (v := am_I 0) rfl rfl (am_fg rfl h21) ?_
    refine ax_if_ne (q := 21) (x := 25) rfl rfl (fun h => absurd h (by omega)) (fun h18 => ?_)
    refine ax_load (q := 22) rfl rfl rfl rfl rfl ?_
    refine ax_callv (q := 25) rfl rfl rfl rfl rfl rfl ?_
    refine m_tokenN (by omega) hP1 (fun σb hkb hPb => ?_)
    have hfb : fp_ [] pf_ [] σ σb := fp_tr (hf1) hkb (by decide) (by decide) (by decide)
    have h2b : σb.1 135 2 = 0 := (hkb.2.1 2 (by decide)).trans h21
    have hgb : σb.2.1 137 = g := (hkb.2.2.1 137 (by decide) (by decide)).trans hg1
    refine ax_load (q := 26) rfl rfl rfl rfl rfl ?_
    refine ax_const (q := 27) (v := am_I 4) rfl rfl rfl ?_
    refine ax_load (q := 28) rfl rfl rfl rfl rfl ?_
    refine ax_getf (q := 31) (v := am_I ((nO : Nat) : Int)) rfl rfl (am_fg rfl (((hfb).2.1 44 (by decide)).trans hnO)) ?_
    refine ax_callv (q := 34) rfl rfl rfl rfl rfl rfl ?_
    refine r_oldName (b := 4) (m := nO) (by omega) hPb h2b hgb (by omega) ⟨fun e he x2 v hk h0 hF => ?_, fun aB pB heB σ2 hk h22 hP2 => ?_⟩
    · have hbad := FT_pos hF h0
      have hfx : fp_ [] pf_ [] σ x2 := fp_tr hfb hk (by decide) (by decide) (by decide)
      have hres : (und_ tp n g f nO p).1 = Sum.inl e := by unfold und_; rw [heA, he]
      refine ax_store (q := 35) (L' := [some (am_R 135), some (am_I ((A : Nat) : Int)), some (am_I v)]) rfl rfl rfl rfl rfl rfl ?_
      refine ax_load (q := 36) rfl rfl rfl rfl rfl ?_
      refine ax_getf (q := 39) (v := am_I (x2.1 135 2)) rfl rfl (rfl) ?_
      refine ax_if_ne (q := 42) (x := 66) rfl rfl (fun h39 => ?_) (fun h => absurd h (by omega))
      refine ax_load (q := 67) rfl rfl rfl rfl rfl ?_
      refine ax_getf (q := 70) (v := am_I (x2.1 135 2)) rfl rfl (rfl) ?_
      refine ax_if_le (q := 73) (x := 74) rfl rfl (fun h => absurd h (by omega)) (fun h70 => ?_)
      refine ax_ret (r := none) rfl rfl ?_
      exact hN _ hres x2 hfx h0 hF
    · obtain ⟨rfl, B, rfl, hlB⟩ := old_in heB
      have hf2 : fp_ [] pf_ [] σ σ2 := fp_tr hfb hk (by decide) (by decide) (by decide)
      have hg2 : σ2.2.1 137 = g := (hk.2.2.1 137 (by decide) (by decide)).trans hgb
      have hfA := hbd A (by omega)
      obtain ⟨U, hU⟩ : ∃ U : Nat, U = (f A).toNat := ⟨_, rfl⟩
      have hU2 : f A = (U : Int) := by omega
      have hB8 : (2 : Nat) ^ B < 2 ^ 31 := Nat.pow_lt_pow_right (by decide) (by omega)
      refine ax_store (q := 35) (L' := [some (am_R 135), some (am_I ((A : Nat) : Int)), some (am_I ((B : Nat) : Int))]) rfl rfl rfl rfl rfl rfl ?_
      refine ax_load (q := 36) rfl rfl rfl rfl rfl ?_
      refine ax_getf (q := 39) (v := am_I 0) rfl rfl (am_fg rfl h22) ?_
      refine ax_if_ne (q := 42) (x := 66) rfl rfl (fun h => absurd h (by omega)) (fun h39 => ?_)
      refine ax_load (q := 43) rfl rfl rfl rfl rfl ?_
      refine ax_load (q := 44) rfl rfl rfl rfl rfl ?_
      refine ax_icmp_eq (q := 47) (x := 61) rfl rfl (fun h44 => ?_) (fun h44 => ?_)
      · have hc : (A : Int) = (B : Int) ∨ (f A).toNat.testBit B = true := Or.inl h44
        refine ax_load (q := 62) rfl rfl rfl rfl rfl ?_
        refine ax_const (q := 63) (v := am_I 3) rfl rfl rfl ?_
        refine ax_callv (q := 66) rfl rfl rfl rfl rfl rfl ?_
        refine m_wrong (by omega) ?_
        rw [if_neg (by rw [h22]; decide)]
        obtain ⟨x3, hx3⟩ : ∃ s, s = wr_ σ2 3 := ⟨_, rfl⟩
        rw [← hx3]
        have hbad : 0 < x3.1 135 2 := by rw [hx3]; exact wr_2 σ2 (by decide)
        have hfx : fp_ [] pf_ [] σ x3 := by rw [hx3]; exact fp_wr hf2 (by decide) (by decide)
        have hF : FT_ tp n (3, nxp_ tp n (nxp_ tp n p)) x3 := by rw [hx3]; exact FT_wr hP2 3
        have h0 : (0 : Int) < 3 := by decide
        have hres : (und_ tp n g f nO p).1 = Sum.inl (3, nxp_ tp n (nxp_ tp n p)) := by unfold und_; rw [heA]; dsimp only; rw [heB]; dsimp only; rw [if_pos (by simpa using hc)]
        refine ax_load (q := 67) rfl rfl rfl rfl rfl ?_
        refine ax_getf (q := 70) (v := am_I (x3.1 135 2)) rfl rfl (rfl) ?_
        refine ax_if_le (q := 73) (x := 74) rfl rfl (fun h => absurd h (by omega)) (fun h70 => ?_)
        refine ax_ret (r := none) rfl rfl ?_
        exact hN _ hres x3 hfx h0 hF
      · refine ax_load (q := 48) rfl rfl rfl rfl rfl ?_
        refine ax_getf (q := 51) (v := am_R 150) rfl rfl (rfl) ?_
        refine ax_load (q := 52) rfl rfl rfl rfl rfl ?_
        refine bx_iald (q := 53) (k := A) (z := ((U : Nat) : Int)) rfl rfl (rfl) (by omega) (by omega) ((congrFun ((hf2.1 150 (by decide) (by decide)).trans hf150) _).trans hU2) ?_
        refine ax_load (q := 54) rfl rfl rfl rfl rfl ?_
        refine ax_ishr (q := 55) (z := am_shr (U : Int) (B : Int)) rfl rfl (rfl) ?_
        refine ax_const (q := 56) (v := am_I 1) rfl rfl rfl ?_
        refine ax_iand (q := 57) (z := if U.testBit B then 1 else 0) rfl rfl (am_bit (by omega) (by omega)) ?_
        refine ax_const (q := 58) (v := am_I 1) rfl rfl rfl ?_
        refine ax_icmp_ne (q := 61) (x := 66) rfl rfl (fun h58 => ?_) (fun h58 => ?_)
        · have hc : ¬ ((A : Int) = (B : Int) ∨ (f A).toNat.testBit B = true) := by rintro (q | q); (exact h44 q); (rw [← hU, it_n1 h58] at q; cases q)
          refine ax_load (q := 67) rfl rfl rfl rfl rfl ?_
          refine ax_getf (q := 70) (v := am_I 0) rfl rfl (am_fg rfl h22) ?_
          refine ax_if_le (q := 73) (x := 74) rfl rfl (fun h70 => ?_) (fun h => absurd h (by omega))
          refine ax_load (q := 75) rfl rfl rfl rfl rfl ?_
          refine ax_getf (q := 78) (v := am_R 150) rfl rfl (rfl) ?_
          refine ax_load (q := 79) rfl rfl rfl rfl rfl ?_
          refine ax_dup2 (q := 80) rfl rfl rfl rfl ?_
          refine bx_iald (q := 81) (k := A) (z := ((U : Nat) : Int)) rfl rfl (rfl) (by omega) (by omega) ((congrFun ((hf2.1 150 (by decide) (by decide)).trans hf150) _).trans hU2) ?_
          refine ax_const (q := 82) (v := am_I 1) rfl rfl rfl ?_
          refine ax_load (q := 83) rfl rfl rfl rfl rfl ?_
          refine ax_ishl (q := 84) (z := ((2 ^ B : Nat) : Int)) rfl rfl (am_shl1 B (by omega)) ?_
          refine ax_ior (q := 85) (z := ((U ||| 2 ^ B : Nat) : Int)) rfl rfl (am_or_nat (by omega) hB8) ?_
          refine bx_iast (q := 86) (k := A) rfl rfl (rfl) (by omega) (by omega) ?_
          refine ax_load (q := 87) rfl rfl rfl rfl rfl ?_
          refine ax_dup (q := 88) rfl rfl rfl ?_
          refine ax_getf (q := 91) (v := am_I ((k : Nat) : Int)) rfl rfl (am_fg rfl (by rw [sI_ne (by decide), hf2.2.1 47 (by decide)]; exact hk47)) ?_
          refine ax_const (q := 92) (v := am_I 1) rfl rfl rfl ?_
          refine ax_iadd (q := 93) (z := ((k + 1 : Nat) : Int)) rfl rfl (am_we (by omega) (by omega) (by omega)) ?_
          refine ax_putf (q := 96) rfl rfl rfl ?_
          refine ax_load (q := 97) rfl rfl rfl rfl rfl ?_
          refine ax_callv (q := 100) rfl rfl rfl rfl rfl rfl ?_
          have hfr : fp_ [150] (47 :: pf_) [] σ (am_sI (am_sI σ2 150 (am_up (σ2.1 150) A ((U ||| 2 ^ B : Nat) : Int))) 135 (am_up ((am_sI σ2 150 (am_up (σ2.1 150) A ((U ||| 2 ^ B : Nat) : Int))).1 135) 47 ((k + 1 : Nat) : Int))) := fp_s5 (fp_sI (fp_tr (fp_rf _ _ _ _) hf2 (by decide) (by decide) (by decide)) (by decide) (by decide)) (by decide)
          have e2 : ((am_sI (am_sI σ2 150 (am_up (σ2.1 150) A ((U ||| 2 ^ B : Nat) : Int))) 135 (am_up ((am_sI σ2 150 (am_up (σ2.1 150) A ((U ||| 2 ^ B : Nat) : Int))).1 135) 47 ((k + 1 : Nat) : Int)))).1 135 2 = 0 := by rw [sI_at, am_up_ne (by decide), sI_ne (by decide)]; exact h22
          have e3 : ((am_sI (am_sI σ2 150 (am_up (σ2.1 150) A ((U ||| 2 ^ B : Nat) : Int))) 135 (am_up ((am_sI σ2 150 (am_up (σ2.1 150) A ((U ||| 2 ^ B : Nat) : Int))).1 135) 47 ((k + 1 : Nat) : Int)))).1 150 = am_up f A ((U ||| 2 ^ B : Nat) : Int) := by rw [sI_ne (by decide), sI_at, hf2.1 150 (by decide) (by decide), hf150]
          have e4 : ((am_sI (am_sI σ2 150 (am_up (σ2.1 150) A ((U ||| 2 ^ B : Nat) : Int))) 135 (am_up ((am_sI σ2 150 (am_up (σ2.1 150) A ((U ||| 2 ^ B : Nat) : Int))).1 135) 47 ((k + 1 : Nat) : Int)))).1 135 47 = ((k + 1 : Nat) : Int) := by rw [sI_at, am_up_same]
          refine m_tokenN (by omega) (PS_s5 (PS_sI hP2 (by decide) (by decide)) (by decide)) (fun σd hkd hPd => ?_)
          refine ax_ret (r := none) rfl rfl ?_
          have hod : und_ tp n g f nO p = (Sum.inr (nxp_ tp n (nxp_ tp n (nxp_ tp n p))), A, B) := by unfold und_; rw [heA]; dsimp only; rw [heB]; dsimp only; rw [if_neg (by simpa using hc)]; rfl
          rw [hod] at hY
          exact hY _ rfl _ (fp_tr hfr hkd (by decide) (by decide) (by decide)) ((hkd.2.1 2 (by decide)).trans e2) hPd (by rw [hkd.1 150 (by decide) (by decide), e3, hU]) ((hkd.2.1 47 (by decide)).trans e4)
        · have hc : (A : Int) = (B : Int) ∨ (f A).toNat.testBit B = true := Or.inr (by rw [← hU]; exact it_1 h58)
          refine ax_load (q := 62) rfl rfl rfl rfl rfl ?_
          refine ax_const (q := 63) (v := am_I 3) rfl rfl rfl ?_
          refine ax_callv (q := 66) rfl rfl rfl rfl rfl rfl ?_
          refine m_wrong (by omega) ?_
          rw [if_neg (by rw [h22]; decide)]
          obtain ⟨x3, hx3⟩ : ∃ s, s = wr_ σ2 3 := ⟨_, rfl⟩
          rw [← hx3]
          have hbad : 0 < x3.1 135 2 := by rw [hx3]; exact wr_2 σ2 (by decide)
          have hfx : fp_ [] pf_ [] σ x3 := by rw [hx3]; exact fp_wr hf2 (by decide) (by decide)
          have hF : FT_ tp n (3, nxp_ tp n (nxp_ tp n p)) x3 := by rw [hx3]; exact FT_wr hP2 3
          have h0 : (0 : Int) < 3 := by decide
          have hres : (und_ tp n g f nO p).1 = Sum.inl (3, nxp_ tp n (nxp_ tp n p)) := by unfold und_; rw [heA]; dsimp only; rw [heB]; dsimp only; rw [if_pos (by simpa using hc)]
          refine ax_load (q := 67) rfl rfl rfl rfl rfl ?_
          refine ax_getf (q := 70) (v := am_I (x3.1 135 2)) rfl rfl (rfl) ?_
          refine ax_if_le (q := 73) (x := 74) rfl rfl (fun h => absurd h (by omega)) (fun h70 => ?_)
          refine ax_ret (r := none) rfl rfl ?_
          exact hN _ hres x3 hfx h0 hF
