/-- a table of what a text told so far, within its bounds -/
def fo_ok (st : List (Int × Int)) : Prop := True
def DV_ (D : sp_T) (nS nO nR nP nU : Nat) : Prop :=
  (D 135 43 = (nS : Int)) ∧ (D 135 44 = (nO : Int)) ∧ (D 135 45 = (nR : Int)) ∧ (D 135 46 = (nP : Int)) ∧ (D 135 47 = (nU : Int)) ∧ (nS ≤ 4) ∧ (nO ≤ 8) ∧ (nR ≤ 3) ∧ (nP ≤ 6) ∧ (nU ≤ 8) ∧ (∀ o, o < nO → 0 ≤ D 150 o ∧ D 150 o ≤ 255) ∧ (D 135 57 = 0 → D 135 20 = 0) ∧ (D 135 57 = 0 ∨ D 135 57 = 1) ∧ (D 135 58 = 0 ∨ D 135 58 = 1) ∧ (D 135 59 = 0 ∨ D 135 59 = 1)
theorem DV_.hS {D : sp_T} {nS nO nR nP nU : Nat} (h : DV_ D nS nO nR nP nU) : D 135 43 = (nS : Int) := h.1
theorem DV_.hO {D : sp_T} {nS nO nR nP nU : Nat} (h : DV_ D nS nO nR nP nU) : D 135 44 = (nO : Int) := h.2.1
theorem DV_.hR {D : sp_T} {nS nO nR nP nU : Nat} (h : DV_ D nS nO nR nP nU) : D 135 45 = (nR : Int) := h.2.2.1
theorem DV_.hP {D : sp_T} {nS nO nR nP nU : Nat} (h : DV_ D nS nO nR nP nU) : D 135 46 = (nP : Int) := h.2.2.2.1
theorem DV_.hU {D : sp_T} {nS nO nR nP nU : Nat} (h : DV_ D nS nO nR nP nU) : D 135 47 = (nU : Int) := h.2.2.2.2.1
theorem DV_.S4 {D : sp_T} {nS nO nR nP nU : Nat} (h : DV_ D nS nO nR nP nU) : nS ≤ 4 := h.2.2.2.2.2.1
theorem DV_.O8 {D : sp_T} {nS nO nR nP nU : Nat} (h : DV_ D nS nO nR nP nU) : nO ≤ 8 := h.2.2.2.2.2.2.1
theorem DV_.R3 {D : sp_T} {nS nO nR nP nU : Nat} (h : DV_ D nS nO nR nP nU) : nR ≤ 3 := h.2.2.2.2.2.2.2.1
theorem DV_.P6 {D : sp_T} {nS nO nR nP nU : Nat} (h : DV_ D nS nO nR nP nU) : nP ≤ 6 := h.2.2.2.2.2.2.2.2.1
theorem DV_.U8 {D : sp_T} {nS nO nR nP nU : Nat} (h : DV_ D nS nO nR nP nU) : nU ≤ 8 := h.2.2.2.2.2.2.2.2.2.1
theorem DV_.un {D : sp_T} {nS nO nR nP nU : Nat} (h : DV_ D nS nO nR nP nU) : ∀ o, o < nO → 0 ≤ D 150 o ∧ D 150 o ≤ 255 := h.2.2.2.2.2.2.2.2.2.2.1
theorem DV_.t0 {D : sp_T} {nS nO nR nP nU : Nat} (h : DV_ D nS nO nR nP nU) : D 135 57 = 0 → D 135 20 = 0 := h.2.2.2.2.2.2.2.2.2.2.2.1
theorem DV_.t1 {D : sp_T} {nS nO nR nP nU : Nat} (h : DV_ D nS nO nR nP nU) : D 135 57 = 0 ∨ D 135 57 = 1 := h.2.2.2.2.2.2.2.2.2.2.2.2.1
theorem DV_.o1 {D : sp_T} {nS nO nR nP nU : Nat} (h : DV_ D nS nO nR nP nU) : D 135 58 = 0 ∨ D 135 58 = 1 := h.2.2.2.2.2.2.2.2.2.2.2.2.2.1
theorem DV_.d1 {D : sp_T} {nS nO nR nP nU : Nat} (h : DV_ D nS nO nR nP nU) : D 135 59 = 0 ∨ D 135 59 = 1 := h.2.2.2.2.2.2.2.2.2.2.2.2.2.2
theorem RS_.gen {D D' : sp_T} {σ σ' : am_S} {A F B : List Nat} (h : RS_ D σ) (hf : fp_ A F B σ σ') (h1 : ∀ a, a ∈ rsA_ → a ∈ A → σ'.1 a = D' a) (h2 : ∀ a, a ∈ rsA_ → a ∉ A → D' a = D a) (h3 : ∀ k, k ∈ rsF_ → k ∈ F → σ'.1 135 k = D' 135 k) (h4 : ∀ k, k ∈ rsF_ → k ∉ F → D' 135 k = D 135 k) (h5 : σ'.2.1 137 = D' 137) : RS_ D' σ' := by
  refine ⟨fun a ha => ?_, fun k hk => ?_, h5⟩
  · by_cases q : a ∈ A
    · exact h1 a ha q
    · rw [hf.1 a q (fun q => by rw [q] at ha; revert ha; decide), h.1 a ha, h2 a ha q]
  · by_cases q : k ∈ F
    · exact h3 k hk q
    · rw [hf.2.1 k q, h.2.1 k hk, h4 k hk q]
abbrev wd_ (tp : Nat → Int) (n p : Nat) (w : Int) : Prop := tks_ tp n p = 1 ∧ tkw_ tp n p = w
/-- what a line tells, but for its end -/
def lin_ (tp : Nat → Int) (n : Nat) (D : sp_T) (p : Nat) : sp_L :=
  if wd_ tp n p 495723310188 ∧ D 135 43 < 4 then sb_ (nwn_ tp n (D 137) 0 (D 135 43).toNat p) fun p' => Sum.inr (du_ (du_ D 137 (0 + (D 135 43).toNat) (tkw_ tp n (nxp_ tp n p))) 135 43 (((D 135 43).toNat + 1 : Nat) : Int), p')
  else if wd_ tp n p 478660552050 ∧ D 135 44 < 8 then ord_ tp n D (D 135 44).toNat (D 135 43).toNat p
  else if wd_ tp n p 123563833652072 ∧ D 135 45 < 3 then sb_ (nwn_ tp n (D 137) 12 (D 135 45).toNat p) fun p' => Sum.inr (du_ (am_up (du_ D 137 (12 + (D 135 45).toNat) (tkw_ tp n (nxp_ tp n p))) 157 (cd_ (fun _ => 0) (D 157) (8 * (D 135 45).toNat) 8)) 135 45 (((D 135 45).toNat + 1 : Nat) : Int), p')
  else if wd_ tp n p 1868850291 then sb_ (odd_ tp n (D 137) (D 157) (D 135 45).toNat (D 135 44).toNat p).1 fun r => Sum.inr (du_ D 157 (odd_ tp n (D 137) (D 157) (D 135 45).toNat (D 135 44).toNat p).2 r.1, r.2)
  else if wd_ tp n p 123581014175598 ∧ D 135 46 < 6 then per_ tp n D (D 135 46).toNat (D 135 43).toNat (D 135 45).toNat p
  else if wd_ tp n p 129116991874419 ∧ D 135 47 < 8 then sb_ (und_ tp n (D 137) (D 150) (D 135 44).toNat p).1 fun p' => Sum.inr (du_ (du_ D 150 (und_ tp n (D 137) (D 150) (D 135 44).toNat p).2.1 (((D 150 (und_ tp n (D 137) (D 150) (D 135 44).toNat p).2.1).toNat ||| 2 ^ (und_ tp n (D 137) (D 150) (D 135 44).toNat p).2.2 : Nat) : Int)) 135 47 (((D 135 47).toNat + 1 : Nat) : Int), p')
  else if wd_ tp n p 499917087592 ∧ D 135 57 = 0 then sb_ (tea_ tp n p) fun r => Sum.inr (tq_ (du_ D 135 57 1) r.2.1 r.2.2, r.1)
  else if wd_ tp n p 1869636974 ∧ D 135 58 = 0 then sb_ (tol_ tp n 1869636974 1 60 p) fun r => Sum.inr (du_ (du_ D 135 58 1) 135 48 r.1, r.2)
  else if wd_ tp n p 1685217655 ∧ D 135 59 = 0 then sb_ (tol_ tp n 1685217655 0 999 p) fun r => Sum.inr (du_ (du_ D 135 59 1) 135 49 r.1, r.2)
  else Sum.inl (2, p)
def line_ (tp : Nat → Int) (n : Nat) (D : sp_T) (p : Nat) : sp_L := sb_ (lin_ tp n D p) fun r => if tks_ tp n r.2 = 59 then Sum.inr (r.1, nxp_ tp n r.2) else Sum.inl (2, r.2)

theorem r_readUndoesN {d : Nat} (hd : 5 ≤ d) {σ : am_S} {tp : Nat → Int} {n p : Nat} (hP : PS_ tp n p σ) (h02 : σ.1 135 2 = 0) {g f : Nat → Int} (hg : σ.2.1 137 = g) (hf150 : σ.1 150 = f) {nO k : Nat} (hbd : ∀ i, i < nO → 0 ≤ f i ∧ f i ≤ 255) (hnO : σ.1 135 44 = (nO : Int)) (hO8 : nO ≤ 8) (hk47 : σ.1 135 47 = (k : Int)) (hk8 : k < 8) {Q : Option am_V → am_S → Prop} (hN : ∀ e, (und_ tp n g f nO p).1 = Sum.inl e → ∀ σ', fp_ [] pf_ [] σ σ' → 0 < e.1 → FT_ tp n e σ' → Q none σ') (hY : ∀ p', (und_ tp n g f nO p).1 = Sum.inr p' → ∀ σ', fp_ [150] (47 :: pf_) [] σ σ' → σ'.1 135 2 = 0 → PS_ tp n p' σ' → σ'.1 150 = am_up f (und_ tp n g f nO p).2.1 (((f (und_ tp n g f nO p).2.1).toNat ||| 2 ^ (und_ tp n g f nO p).2.2 : Nat) : Int) → σ'.1 135 47 = ((k + 1 : Nat) : Int) → Q none σ') : am_Ev d 179 [am_R 135] σ Q := by
  obtain ⟨d, rfl⟩ : ∃ e, d = e + 1 := ⟨d - 1, by omega⟩
  refine ev_in (m := 179) (c := k_X9_readUndoes) (L := [some (am_R 135), none, none]) rfl rfl rfl rfl rfl rfl ?_
  refine ax_load (q := 1) rfl rfl rfl rfl rfl ?_
  refine ax_callv (q := 4) rfl rfl rfl rfl rfl rfl ?_
  refine m_tokenN (by omega) hP (fun σa hka hPa => ?_)
  have hfa : fp_ [] pf_ [] σ σa := fp_tr (fp_rf [] pf_ [] σ) hka (by decide) (by decide) (by decide)
  have h2a : σa.1 135 2 = 0 := (hka.2.1 2 (by decide)).trans h02
  have hga : σa.2.1 137 = g := (hka.2.2.1 137 (by decide) (by decide)).trans hg
  refine ax_load (q := 5) rfl rfl rfl rfl rfl ?_
  refine ax_const (q := 6) (v := am_I 4) rfl rfl rfl ?_
  refine ax_load (q := 7) rfl rfl rfl rfl rfl ?_
  refine ax_getf (q := 10) (v := am_I ((nO : Nat) : Int)) rfl rfl (am_fg rfl (((hfa).2.1 44 (by decide)).trans hnO)) ?_
  refine ax_callv (q := 13) rfl rfl rfl rfl rfl rfl ?_
  refine r_oldName (b := 4) (m := nO) (by omega) hPa h2a hga (by omega) ⟨fun e he x1 v hk h0 hF => ?_, fun aA pA heA σ1 hk h21 hP1 => ?_⟩
  · have hbad := FT_pos hF h0
    have hfx : fp_ [] pf_ [] σ x1 := fp_tr hfa hk (by decide) (by decide) (by decide)
    have hres : (und_ tp n g f nO p).1 = Sum.inl e := by unfold und_; rw [he]
    refine ax_store (q := 14) (L' := [some (am_R 135), some (am_I v), none]) rfl rfl rfl rfl rfl rfl ?_
    refine ax_load (q := 15) rfl rfl rfl rfl rfl ?_
    refine ax_getf (q := 18) (v := am_I (x1.1 135 2)) rfl rfl (rfl) ?_
    refine ax_if_ne (q := 21) (x := 25) rfl rfl (fun h18 => ?_) (fun h => absurd h (by omega))
    refine ax_load (q := 26) rfl rfl rfl rfl rfl ?_
    refine ax_const (q := 27) (v := am_I 4) rfl rfl rfl ?_
    refine ax_load (q := 28) rfl rfl rfl rfl rfl ?_
    refine ax_getf (q := 31) (v := am_I ((nO : Nat) : Int)) rfl rfl (am_fg rfl (((hfx).2.1 44 (by decide)).trans hnO)) ?_
    refine ax_callv (q := 34) rfl rfl rfl rfl rfl rfl ?_
    refine z_oldName (by omega) hbad ?_
    refine ax_store (q := 35) (L' := [some (am_R 135), some (am_I v), some (am_I 0)]) rfl rfl rfl rfl rfl rfl ?_
    refine ax_load (q := 36) rfl rfl rfl rfl rfl ?_
    refine ax_getf (q := 39) (v := am_I (x1.1 135 2)) rfl rfl (rfl) ?_
    refine ax_if_ne (q := 42) (x := 66) rfl rfl (fun h39 => ?_) (fun h => absurd h (by omega))
    refine ax_load (q := 67) rfl rfl rfl rfl rfl ?_
    refine ax_getf (q := 70) (v := am_I (x1.1 135 2)) rfl rfl (rfl) ?_
    refine ax_if_le (q := 73) (x := 74) rfl rfl (fun h => absurd h (by omega)) (fun h70 => ?_)
    refine ax_ret (r := none) rfl rfl ?_
    exact hN _ hres x1 hfx h0 hF
  · obtain ⟨rfl, A, rfl, hlA⟩ := old_in heA
    have hf1 : fp_ [] pf_ [] σ σ1 := fp_tr hfa hk (by decide) (by decide) (by decide)
    have hg1 : σ1.2.1 137 = g := (hk.2.2.1 137 (by decide) (by decide)).trans hga
    refine ax_store (q := 14) (L' := [some (am_R 135), some (am_I ((A : Nat) : Int)), none]) rfl rfl rfl rfl rfl rfl ?_
    refine ax_load (q := 15) rfl rfl rfl rfl rfl ?_
    refine ax_getf (q := 18) (v := am_I 0) rfl rfl (am_fg rfl h21) ?_
    refine ax_if_ne (q := 21) (x := 25) rfl rfl (fun h => absurd h (by omega)) (fun h18 => ?_)
    refine ax_load (q := 22) rfl rfl rfl rfl rfl ?_
    refine ax_callv (q := 25) rfl rfl rfl rfl rfl rfl ?_
    refine m_tokenN (by omega) hP1 (fun σb hkb hPb => ?_)
    have hfb : fp_ [] pf_ [] σ σb := fp_tr (hf1) hkb (by decide) (by decide) (by decide)
    have h2b : σb.1 135 2 = 0 := (hkb.2.1 2 (by decide)).trans h21
    have hgb : σb.2.1 137 = g := (hkb.2.2.1 137 (by decide) (by decide)).trans hg1
    refine ax_load (q := 26) rfl rfl rfl rfl rfl ?_
    refine ax_const (q := 27) (v := am_I 4) rfl rfl rfl ?_
    refine ax_load (q := 28) rfl rfl rfl rfl rfl ?_
    refine ax_getf (q := 31) (v := am_I ((nO : Nat) : Int)) rfl rfl (am_fg rfl (((hfb).2.1 44 (by decide)).trans hnO)) ?_
    refine ax_callv (q := 34) rfl rfl rfl rfl rfl rfl ?_
    refine r_oldName (b := 4) (m := nO) (by omega) hPb h2b hgb (by omega) ⟨fun e he x2 v hk h0 hF => ?_, fun aB pB heB σ2 hk h22 hP2 => ?_⟩
    · have hbad := FT_pos hF h0
      have hfx : fp_ [] pf_ [] σ x2 := fp_tr hfb hk (by decide) (by decide) (by decide)
      have hres : (und_ tp n g f nO p).1 = Sum.inl e := by unfold und_; rw [heA, he]
      refine ax_store (q := 35) (L' := [some (am_R 135), some (am_I ((A : Nat) : Int)), some (am_I v)]) rfl rfl rfl rfl rfl rfl ?_
      refine ax_load (q := 36) rfl rfl rfl rfl rfl ?_
      refine ax_getf (q := 39) (v := am_I (x2.1 135 2)) rfl rfl (rfl) ?_
      refine ax_if_ne (q := 42) (x := 66) rfl rfl (fun h39 => ?_) (fun h => absurd h (by omega))
      refine ax_load (q := 67) rfl rfl rfl rfl rfl ?_
      refine ax_getf (q := 70) (v := am_I (x2.1 135 2)) rfl rfl (rfl) ?_
      refine ax_if_le (q := 73) (x := 74) rfl rfl (fun h => absurd h (by omega)) (fun h70 => ?_)
      refine ax_ret (r := none) rfl rfl ?_
      exact hN _ hres x2 hfx h0 hF
    · obtain ⟨rfl, B, rfl, hlB⟩ := old_in heB
      have hf2 : fp_ [] pf_ [] σ σ2 := fp_tr hfb hk (by decide) (by decide) (by decide)
      have hg2 : σ2.2.1 137 = g := (hk.2.2.1 137 (by decide) (by decide)).trans hgb
      have hfA := hbd A (by omega)
      obtain ⟨U, hU⟩ : ∃ U : Nat, U = (f A).toNat := ⟨_, rfl⟩
      have hU2 : f A = (U : Int) := by omega
      have hB8 : (2 : Nat) ^ B < 2 ^ 31 := Nat.pow_lt_pow_right (by decide) (by omega)
      refine ax_store (q := 35) (L' := [some (am_R 135), some (am_I ((A : Nat) : Int)), some (am_I ((B : Nat) : Int))]) rfl rfl rfl rfl rfl rfl ?_
      refine ax_load (q := 36) rfl rfl rfl rfl rfl ?_
      refine ax_getf (q := 39) (v := am_I 0) rfl rfl (am_fg rfl h22) ?_
      refine ax_if_ne (q := 42) (x := 66) rfl rfl (fun h => absurd h (by omega)) (fun h39 => ?_)
      refine ax_load (q := 43) rfl rfl rfl rfl rfl ?_
      refine ax_load (q := 44) rfl rfl rfl rfl rfl ?_
      refine ax_icmp_eq (q := 47) (x := 61) rfl rfl (fun h44 => ?_) (fun h44 => ?_)
      · have hc : (A : Int) = (B : Int) ∨ (f A).toNat.testBit B = true := Or.inl h44
        refine ax_load (q := 62) rfl rfl rfl rfl rfl ?_
        refine ax_const (q := 63) (v := am_I 3) rfl rfl rfl ?_
        refine ax_callv (q := 66) rfl rfl rfl rfl rfl rfl ?_
        refine m_wrong (by omega) ?_
        rw [if_neg (by rw [h22]; decide)]
        obtain ⟨x3, hx3⟩ : ∃ s, s = wr_ σ2 3 := ⟨_, rfl⟩
        rw [← hx3]
        have hbad : 0 < x3.1 135 2 := by rw [hx3]; exact wr_2 σ2 (by decide)
        have hfx : fp_ [] pf_ [] σ x3 := by rw [hx3]; exact fp_wr hf2 (by decide) (by decide)
        have hF : FT_ tp n (3, nxp_ tp n (nxp_ tp n p)) x3 := by rw [hx3]; exact FT_wr hP2 3
        have h0 : (0 : Int) < 3 := by decide
        have hres : (und_ tp n g f nO p).1 = Sum.inl (3, nxp_ tp n (nxp_ tp n p)) := by unfold und_; rw [heA]; dsimp only; rw [heB]; dsimp only; rw [if_pos (by simpa using hc)]
        refine ax_load (q := 67) rfl rfl rfl rfl rfl ?_
        refine ax_getf (q := 70) (v := am_I (x3.1 135 2)) rfl rfl (rfl) ?_
        refine ax_if_le (q := 73) (x := 74) rfl rfl (fun h => absurd h (by omega)) (fun h70 => ?_)
        refine ax_ret (r := none) rfl rfl ?_
        exact hN _ hres x3 hfx h0 hF
      · refine ax_load (q := 48) rfl rfl rfl rfl rfl ?_
        refine ax_getf (q := 51) (v := am_R 150) rfl rfl (rfl) ?_
        refine ax_load (q := 52) rfl rfl rfl rfl rfl ?_
        refine bx_iald (q := 53) (k := A) (z := ((U : Nat) : Int)) rfl rfl (rfl) (by omega) (by omega) ((congrFun ((hf2.1 150 (by decide) (by decide)).trans hf150) _).trans hU2) ?_
        refine ax_load (q := 54) rfl rfl rfl rfl rfl ?_
        refine ax_ishr (q := 55) (z := am_shr (U : Int) (B : Int)) rfl rfl (rfl) ?_
        refine ax_const (q := 56) (v := am_I 1) rfl rfl rfl ?_
        refine ax_iand (q := 57) (z := if U.testBit B then 1 else 0) rfl rfl (am_bit (by omega) (by omega)) ?_
        refine ax_const (q := 58) (v := am_I 1) rfl rfl rfl ?_
        refine ax_icmp_ne (q := 61) (x := 66) rfl rfl (fun h58 => ?_) (fun h58 => ?_)
        · have hc : ¬ ((A : Int) = (B : Int) ∨ (f A).toNat.testBit B = true) := by rintro (q | q); (exact h44 q); (rw [← hU, it_n1 h58] at q; cases q)
          refine ax_load (q := 67) rfl rfl rfl rfl rfl ?_
          refine ax_getf (q := 70) (v := am_I 0) rfl rfl (am_fg rfl h22) ?_
          refine ax_if_le (q := 73) (x := 74) rfl rfl (fun h70 => ?_) (fun h => absurd h (by omega))
          refine ax_load (q := 75) rfl rfl rfl rfl rfl ?_
          refine ax_getf (q := 78) (v := am_R 150) rfl rfl (rfl) ?_
          refine ax_load (q := 79) rfl rfl rfl rfl rfl ?_
          refine ax_dup2 (q := 80) rfl rfl rfl rfl ?_
          refine bx_iald (q := 81) (k := A) (z := ((U : Nat) : Int)) rfl rfl (rfl) (by omega) (by omega) ((congrFun ((hf2.1 150 (by decide) (by decide)).trans hf150) _).trans hU2) ?_
          refine ax_const (q := 82) (v := am_I 1) rfl rfl rfl ?_
          refine ax_load (q := 83) rfl rfl rfl rfl rfl ?_
          refine ax_ishl (q := 84) (z := ((2 ^ B : Nat) : Int)) rfl rfl (am_shl1 B (by omega)) ?_
          refine ax_ior (q := 85) (z := ((U ||| 2 ^ B : Nat) : Int)) rfl rfl (am_or_nat (by omega) hB8) ?_
          refine bx_iast (q := 86) (k := A) rfl rfl (rfl) (by omega) (by omega) ?_
          refine ax_load (q := 87) rfl rfl rfl rfl rfl ?_
          refine ax_dup (q := 88) rfl rfl rfl ?_
          refine ax_getf (q := 91) (v := am_I ((k : Nat) : Int)) rfl rfl (am_fg rfl (by rw [sI_ne (by decide), hf2.2.1 47 (by decide)]; exact hk47)) ?_
          refine ax_const (q := 92) (v := am_I 1) rfl rfl rfl ?_
          refine ax_iadd (q := 93) (z := ((k + 1 : Nat) : Int)) rfl rfl (am_we (by omega) (by omega) (by omega)) ?_
          refine ax_putf (q := 96) rfl rfl rfl ?_
          refine ax_load (q := 97) rfl rfl rfl rfl rfl ?_
          refine ax_callv (q := 100) rfl rfl rfl rfl rfl rfl ?_
          have hfr : fp_ [150] (47 :: pf_) [] σ (am_sI (am_sI σ2 150 (am_up (σ2.1 150) A ((U ||| 2 ^ B : Nat) : Int))) 135 (am_up ((am_sI σ2 150 (am_up (σ2.1 150) A ((U ||| 2 ^ B : Nat) : Int))).1 135) 47 ((k + 1 : Nat) : Int))) := fp_s5 (fp_sI (fp_tr (fp_rf _ _ _ _) hf2 (by decide) (by decide) (by decide)) (by decide) (by decide)) (by decide)
          have e2 : ((am_sI (am_sI σ2 150 (am_up (σ2.1 150) A ((U ||| 2 ^ B : Nat) : Int))) 135 (am_up ((am_sI σ2 150 (am_up (σ2.1 150) A ((U ||| 2 ^ B : Nat) : Int))).1 135) 47 ((k + 1 : Nat) : Int)))).1 135 2 = 0 := by rw [sI_at, am_up_ne (by decide), sI_ne (by decide)]; exact h22
          have e3 : ((am_sI (am_sI σ2 150 (am_up (σ2.1 150) A ((U ||| 2 ^ B : Nat) : Int))) 135 (am_up ((am_sI σ2 150 (am_up (σ2.1 150) A ((U ||| 2 ^ B : Nat) : Int))).1 135) 47 ((k + 1 : Nat) : Int)))).1 150 = am_up f A ((U ||| 2 ^ B : Nat) : Int) := by rw [sI_ne (by decide), sI_at, hf2.1 150 (by decide) (by decide), hf150]
          have e4 : ((am_sI (am_sI σ2 150 (am_up (σ2.1 150) A ((U ||| 2 ^ B : Nat) : Int))) 135 (am_up ((am_sI σ2 150 (am_up (σ2.1 150) A ((U ||| 2 ^ B : Nat) : Int))).1 135) 47 ((k + 1 : Nat) : Int)))).1 135 47 = ((k + 1 : Nat) : Int) := by rw [sI_at, am_up_same]
          refine m_tokenN (by omega) (PS_s5 (PS_sI hP2 (by decide) (by decide)) (by decide)) (fun σd hkd hPd => ?_)
          refine ax_ret (r := none) rfl rfl ?_
          have hod : und_ tp n g f nO p = (Sum.inr (nxp_ tp n (nxp_ tp n (nxp_ tp n p))), A, B) := by unfold und_; rw [heA]; dsimp only; rw [heB]; dsimp only; rw [if_neg (by simpa using hc)]; rfl
          rw [hod] at hY
          exact hY _ rfl _ (fp_tr hfr hkd (by decide) (by decide) (by decide)) ((hkd.2.1 2 (by decide)).trans e2) hPd (by rw [hkd.1 150 (by decide) (by decide), e3, hU]) ((hkd.2.1 47 (by decide)).trans e4)
        · have hc : (A : Int) = (B : Int) ∨ (f A).toNat.testBit B = true := Or.inr (by rw [← hU]; exact it_1 h58)
          refine ax_load (q := 62) rfl rfl rfl rfl rfl ?_
          refine ax_const (q := 63) (v := am_I 3) rfl rfl rfl ?_
          refine ax_callv (q := 66) rfl rfl rfl rfl rfl rfl ?_
          refine m_wrong (by omega) ?_
          rw [if_neg (by rw [h22]; decide)]
          obtain ⟨x3, hx3⟩ : ∃ s, s = wr_ σ2 3 := ⟨_, rfl⟩
          rw [← hx3]
          have hbad : 0 < x3.1 135 2 := by rw [hx3]; exact wr_2 σ2 (by decide)
          have hfx : fp_ [] pf_ [] σ x3 := by rw [hx3]; exact fp_wr hf2 (by decide) (by decide)
          have hF : FT_ tp n (3, nxp_ tp n (nxp_ tp n p)) x3 := by rw [hx3]; exact FT_wr hP2 3
          have h0 : (0 : Int) < 3 := by decide
          have hres : (und_ tp n g f nO p).1 = Sum.inl (3, nxp_ tp n (nxp_ tp n p)) := by unfold und_; rw [heA]; dsimp only; rw [heB]; dsimp only; rw [if_pos (by simpa using hc)]
          refine ax_load (q := 67) rfl rfl rfl rfl rfl ?_
          refine ax_getf (q := 70) (v := am_I (x3.1 135 2)) rfl rfl (rfl) ?_
          refine ax_if_le (q := 73) (x := 74) rfl rfl (fun h => absurd h (by omega)) (fun h70 => ?_)
          refine ax_ret (r := none) rfl rfl ?_
          exact hN _ hres x3 hfx h0 hF

theorem rl_9 {d : Nat} (hd : 8 ≤ d) {tp : Nat → Int} {n p : Nat} {D : sp_T} {nS nO nR nP nU : Nat} (hV : DV_ D nS nO nR nP nU) {σ : am_S} (hP : PS_ tp n p σ) (h02 : σ.1 135 2 = 0) (hR : RS_ D σ) {Q : Option am_V → am_S → Prop} (hQ : LO_ tp n (lin_ tp n D p) σ (fun _ σ' => aW d 4 k_X9_readLine Q 258 [some (am_R 135)] [] σ')) (c0 : ¬ (wd_ tp n p 495723310188 ∧ D 135 43 < 4)) (c1 : ¬ (wd_ tp n p 478660552050 ∧ D 135 44 < 8)) (c2 : ¬ (wd_ tp n p 123563833652072 ∧ D 135 45 < 3)) (c3 : ¬ wd_ tp n p 1868850291) (c4 : ¬ (wd_ tp n p 123581014175598 ∧ D 135 46 < 6)) (c5 : ¬ (wd_ tp n p 129116991874419 ∧ D 135 47 < 8)) (c6 : ¬ (wd_ tp n p 499917087592 ∧ D 135 57 = 0)) (c7 : ¬ (wd_ tp n p 1869636974 ∧ D 135 58 = 0)) (c8 : ¬ (wd_ tp n p 1685217655 ∧ D 135 59 = 0)) : aW d 4 k_X9_readLine Q 253 [some (am_R 135)] [] σ := by
  refine ax_load (q := 254) rfl rfl rfl rfl rfl ?_
  refine ax_const (q := 255) (v := am_I 2) rfl rfl rfl ?_
  refine ax_callv (q := 258) rfl rfl rfl rfl rfl rfl ?_
  refine m_wrong (by omega) ?_
  rw [if_neg (by rw [h02]; decide)]
  exact hQ.1 (2, p) (by unfold lin_; rw [if_neg c0, if_neg c1, if_neg c2, if_neg c3, if_neg c4, if_neg c5, if_neg c6, if_neg c7, if_neg c8]) _ (fp_wr (fp_rf _ _ _ _) (by decide) (by decide)) (by show (0 : Int) < 2; decide) (FT_wr hP 2)

theorem rl_8 {d : Nat} (hd : 8 ≤ d) {tp : Nat → Int} {n p : Nat} {D : sp_T} {nS nO nR nP nU : Nat} (hV : DV_ D nS nO nR nP nU) {σ : am_S} (hP : PS_ tp n p σ) (h02 : σ.1 135 2 = 0) (hR : RS_ D σ) {Q : Option am_V → am_S → Prop} (hQ : LO_ tp n (lin_ tp n D p) σ (fun _ σ' => aW d 4 k_X9_readLine Q 258 [some (am_R 135)] [] σ')) (c0 : ¬ (wd_ tp n p 495723310188 ∧ D 135 43 < 4)) (c1 : ¬ (wd_ tp n p 478660552050 ∧ D 135 44 < 8)) (c2 : ¬ (wd_ tp n p 123563833652072 ∧ D 135 45 < 3)) (c3 : ¬ wd_ tp n p 1868850291) (c4 : ¬ (wd_ tp n p 123581014175598 ∧ D 135 46 < 6)) (c5 : ¬ (wd_ tp n p 129116991874419 ∧ D 135 47 < 8)) (c6 : ¬ (wd_ tp n p 499917087592 ∧ D 135 57 = 0)) (c7 : ¬ (wd_ tp n p 1869636974 ∧ D 135 58 = 0)) : aW d 4 k_X9_readLine Q 213 [some (am_R 135)] [] σ := by
  have k6 := hP.1.2.1
  have k9 := hP.1.2.2.2.2
  refine ax_load (q := 214) rfl rfl rfl rfl rfl ?_
  refine ax_const (q := 217) (v := am_J 1685217655) rfl rfl rfl ?_
  refine ax_callv (q := 220) rfl rfl rfl rfl rfl rfl ?_
  refine m_isWord (by omega) ?_
  rw [k6, k9]
  refine ax_if_eq (q := 223) (x := 253) rfl rfl (fun h220 => ?_) (fun h220 => ?_)
  · have hw := of_decide_eq_false (it_0 h220)
    have hc : ¬ (wd_ tp n p 1685217655 ∧ D 135 59 = 0) := fun q => hw q.1
    exact rl_9 hd hV hP h02 hR hQ c0 c1 c2 c3 c4 c5 c6 c7 hc
  · have hw : wd_ tp n p 1685217655 := of_decide_eq_true (it_n0 h220)
    refine ax_load (q := 224) rfl rfl rfl rfl rfl ?_
    refine ax_getf (q := 227) (v := am_I (D 135 59)) rfl rfl (am_fg rfl (hR.2.1 59 (by decide))) ?_
    refine ax_if_ne (q := 230) (x := 253) rfl rfl (fun h227 => ?_) (fun h227 => ?_)
    · have hc : ¬ (wd_ tp n p 1685217655 ∧ D 135 59 = 0) := fun q => h227 q.2
      exact rl_9 hd hV hP h02 hR hQ c0 c1 c2 c3 c4 c5 c6 c7 hc
    · have hc : D 135 59 = 0 := by omega
      refine ax_load (q := 231) rfl rfl rfl rfl rfl ?_
      refine ax_const (q := 232) (v := am_I 1) rfl rfl rfl ?_
      refine ax_putz (q := 235) rfl rfl rfl (Or.inr rfl) ?_
      refine ax_load (q := 236) rfl rfl rfl rfl rfl ?_
      refine ax_load (q := 237) rfl rfl rfl rfl rfl ?_
      refine ax_const (q := 240) (v := am_J 1685217655) rfl rfl rfl ?_
      refine ax_const (q := 241) (v := am_I 0) rfl rfl rfl ?_
      refine ax_const (q := 244) (v := am_I 999) rfl rfl rfl ?_
      refine ax_callv (q := 247) rfl rfl rfl rfl rfl rfl ?_
      have tnS : (D 135 43).toNat = nS := by rw [hV.hS]; exact Int.toNat_natCast _
      have tnO : (D 135 44).toNat = nO := by rw [hV.hO]; exact Int.toNat_natCast _
      have tnR : (D 135 45).toNat = nR := by rw [hV.hR]; exact Int.toNat_natCast _
      have tnP : (D 135 46).toNat = nP := by rw [hV.hP]; exact Int.toNat_natCast _
      have tnU : (D 135 47).toNat = nU := by rw [hV.hU]; exact Int.toNat_natCast _
      have hu : lin_ tp n D p = sb_ (tol_ tp n 1685217655 0 999 p) fun r => Sum.inr (du_ (du_ D 135 59 1) 135 49 r.1, r.2) := by unfold lin_; rw [if_neg c0, if_neg c1, if_neg c2, if_neg c3, if_neg c4, if_neg c5, if_neg c6, if_neg c7, if_pos ⟨hw, hc⟩]
      try simp only [tnS, tnO, tnR, tnP, tnU] at hu
      refine r_told (by omega) (PS_s5 hP (by decide)) (f_s5 (by decide) h02) ⟨fun e he σ1 v hf1 h0 hF => ?_, fun v p1 he σ1 hf1 h21 hP1 => ?_⟩
      · have hf9 : RF_ σ σ1 := RF_.tr (fp_s5 (RF_.rf σ) (by decide)) hf1 (by decide) (by decide) (by decide)
        refine ax_putf (q := 250) rfl rfl rfl ?_
        refine ax_goto (x := 258) rfl ?_
        exact hQ.1 e (hu.trans (sb_l he)) _ (fp_s5 hf9 (by decide)) h0 ⟨f_s5 (by decide) hF.1, f_s5 (by decide) hF.2⟩
      · have hf8 : RF_ σ σ1 := RF_.tr (fp_s5 (RF_.rf σ) (by decide)) hf1 (by decide) (by decide) (by decide)
        refine ax_putf (q := 250) rfl rfl rfl ?_
        refine ax_goto (x := 258) rfl ?_
        exact hQ.2 _ _ (hu.trans (sb_r he)) _ (fp_s5 hf8 (by decide)) (f_s5 (by decide) h21) (PS_s5 hP1 (by decide)) (RS_.s5 (RS_.tok (RS_.s5 hR) hf1 (by decide)))

theorem rl_7 {d : Nat} (hd : 8 ≤ d) {tp : Nat → Int} {n p : Nat} {D : sp_T} {nS nO nR nP nU : Nat} (hV : DV_ D nS nO nR nP nU) {σ : am_S} (hP : PS_ tp n p σ) (h02 : σ.1 135 2 = 0) (hR : RS_ D σ) {Q : Option am_V → am_S → Prop} (hQ : LO_ tp n (lin_ tp n D p) σ (fun _ σ' => aW d 4 k_X9_readLine Q 258 [some (am_R 135)] [] σ')) (c0 : ¬ (wd_ tp n p 495723310188 ∧ D 135 43 < 4)) (c1 : ¬ (wd_ tp n p 478660552050 ∧ D 135 44 < 8)) (c2 : ¬ (wd_ tp n p 123563833652072 ∧ D 135 45 < 3)) (c3 : ¬ wd_ tp n p 1868850291) (c4 : ¬ (wd_ tp n p 123581014175598 ∧ D 135 46 < 6)) (c5 : ¬ (wd_ tp n p 129116991874419 ∧ D 135 47 < 8)) (c6 : ¬ (wd_ tp n p 499917087592 ∧ D 135 57 = 0)) : aW d 4 k_X9_readLine Q 174 [some (am_R 135)] [] σ := by
  have k6 := hP.1.2.1
  have k9 := hP.1.2.2.2.2
  refine ax_load (q := 175) rfl rfl rfl rfl rfl ?_
  refine ax_const (q := 178) (v := am_J 1869636974) rfl rfl rfl ?_
  refine ax_callv (q := 181) rfl rfl rfl rfl rfl rfl ?_
  refine m_isWord (by omega) ?_
  rw [k6, k9]
  refine ax_if_eq (q := 184) (x := 213) rfl rfl (fun h181 => ?_) (fun h181 => ?_)
  · have hw := of_decide_eq_false (it_0 h181)
    have hc : ¬ (wd_ tp n p 1869636974 ∧ D 135 58 = 0) := fun q => hw q.1
    exact rl_8 hd hV hP h02 hR hQ c0 c1 c2 c3 c4 c5 c6 hc
  · have hw : wd_ tp n p 1869636974 := of_decide_eq_true (it_n0 h181)
    refine ax_load (q := 185) rfl rfl rfl rfl rfl ?_
    refine ax_getf (q := 188) (v := am_I (D 135 58)) rfl rfl (am_fg rfl (hR.2.1 58 (by decide))) ?_
    refine ax_if_ne (q := 191) (x := 213) rfl rfl (fun h188 => ?_) (fun h188 => ?_)
    · have hc : ¬ (wd_ tp n p 1869636974 ∧ D 135 58 = 0) := fun q => h188 q.2
      exact rl_8 hd hV hP h02 hR hQ c0 c1 c2 c3 c4 c5 c6 hc
    · have hc : D 135 58 = 0 := by omega
      refine ax_load (q := 192) rfl rfl rfl rfl rfl ?_
      refine ax_const (q := 193) (v := am_I 1) rfl rfl rfl ?_
      refine ax_putz (q := 196) rfl rfl rfl (Or.inr rfl) ?_
      refine ax_load (q := 197) rfl rfl rfl rfl rfl ?_
      refine ax_load (q := 198) rfl rfl rfl rfl rfl ?_
      refine ax_const (q := 201) (v := am_J 1869636974) rfl rfl rfl ?_
      refine ax_const (q := 202) (v := am_I 1) rfl rfl rfl ?_
      refine ax_const (q := 204) (v := am_I 60) rfl rfl rfl ?_
      refine ax_callv (q := 207) rfl rfl rfl rfl rfl rfl ?_
      have tnS : (D 135 43).toNat = nS := by rw [hV.hS]; exact Int.toNat_natCast _
      have tnO : (D 135 44).toNat = nO := by rw [hV.hO]; exact Int.toNat_natCast _
      have tnR : (D 135 45).toNat = nR := by rw [hV.hR]; exact Int.toNat_natCast _
      have tnP : (D 135 46).toNat = nP := by rw [hV.hP]; exact Int.toNat_natCast _
      have tnU : (D 135 47).toNat = nU := by rw [hV.hU]; exact Int.toNat_natCast _
      have hu : lin_ tp n D p = sb_ (tol_ tp n 1869636974 1 60 p) fun r => Sum.inr (du_ (du_ D 135 58 1) 135 48 r.1, r.2) := by unfold lin_; rw [if_neg c0, if_neg c1, if_neg c2, if_neg c3, if_neg c4, if_neg c5, if_neg c6, if_pos ⟨hw, hc⟩]
      try simp only [tnS, tnO, tnR, tnP, tnU] at hu
      refine r_told (by omega) (PS_s5 hP (by decide)) (f_s5 (by decide) h02) ⟨fun e he σ1 v hf1 h0 hF => ?_, fun v p1 he σ1 hf1 h21 hP1 => ?_⟩
      · have hf9 : RF_ σ σ1 := RF_.tr (fp_s5 (RF_.rf σ) (by decide)) hf1 (by decide) (by decide) (by decide)
        refine ax_putf (q := 210) rfl rfl rfl ?_
        refine ax_goto (x := 258) rfl ?_
        exact hQ.1 e (hu.trans (sb_l he)) _ (fp_s5 hf9 (by decide)) h0 ⟨f_s5 (by decide) hF.1, f_s5 (by decide) hF.2⟩
      · have hf8 : RF_ σ σ1 := RF_.tr (fp_s5 (RF_.rf σ) (by decide)) hf1 (by decide) (by decide) (by decide)
        refine ax_putf (q := 210) rfl rfl rfl ?_
        refine ax_goto (x := 258) rfl ?_
        exact hQ.2 _ _ (hu.trans (sb_r he)) _ (fp_s5 hf8 (by decide)) (f_s5 (by decide) h21) (PS_s5 hP1 (by decide)) (RS_.s5 (RS_.tok (RS_.s5 hR) hf1 (by decide)))

theorem rl_6 {d : Nat} (hd : 8 ≤ d) {tp : Nat → Int} {n p : Nat} {D : sp_T} {nS nO nR nP nU : Nat} (hV : DV_ D nS nO nR nP nU) {σ : am_S} (hP : PS_ tp n p σ) (h02 : σ.1 135 2 = 0) (hR : RS_ D σ) {Q : Option am_V → am_S → Prop} (hQ : LO_ tp n (lin_ tp n D p) σ (fun _ σ' => aW d 4 k_X9_readLine Q 258 [some (am_R 135)] [] σ')) (c0 : ¬ (wd_ tp n p 495723310188 ∧ D 135 43 < 4)) (c1 : ¬ (wd_ tp n p 478660552050 ∧ D 135 44 < 8)) (c2 : ¬ (wd_ tp n p 123563833652072 ∧ D 135 45 < 3)) (c3 : ¬ wd_ tp n p 1868850291) (c4 : ¬ (wd_ tp n p 123581014175598 ∧ D 135 46 < 6)) (c5 : ¬ (wd_ tp n p 129116991874419 ∧ D 135 47 < 8)) : aW d 4 k_X9_readLine Q 145 [some (am_R 135)] [] σ := by
  have k6 := hP.1.2.1
  have k9 := hP.1.2.2.2.2
  refine ax_load (q := 146) rfl rfl rfl rfl rfl ?_
  refine ax_const (q := 149) (v := am_J 499917087592) rfl rfl rfl ?_
  refine ax_callv (q := 152) rfl rfl rfl rfl rfl rfl ?_
  refine m_isWord (by omega) ?_
  rw [k6, k9]
  refine ax_if_eq (q := 155) (x := 174) rfl rfl (fun h152 => ?_) (fun h152 => ?_)
  · have hw := of_decide_eq_false (it_0 h152)
    have hc : ¬ (wd_ tp n p 499917087592 ∧ D 135 57 = 0) := fun q => hw q.1
    exact rl_7 hd hV hP h02 hR hQ c0 c1 c2 c3 c4 c5 hc
  · have hw : wd_ tp n p 499917087592 := of_decide_eq_true (it_n0 h152)
    refine ax_load (q := 156) rfl rfl rfl rfl rfl ?_
    refine ax_getf (q := 159) (v := am_I (D 135 57)) rfl rfl (am_fg rfl (hR.2.1 57 (by decide))) ?_
    refine ax_if_ne (q := 162) (x := 174) rfl rfl (fun h159 => ?_) (fun h159 => ?_)
    · have hc : ¬ (wd_ tp n p 499917087592 ∧ D 135 57 = 0) := fun q => h159 q.2
      exact rl_7 hd hV hP h02 hR hQ c0 c1 c2 c3 c4 c5 hc
    · have hc : D 135 57 = 0 := by omega
      refine ax_load (q := 163) rfl rfl rfl rfl rfl ?_
      refine ax_const (q := 164) (v := am_I 1) rfl rfl rfl ?_
      refine ax_putz (q := 167) rfl rfl rfl (Or.inr rfl) ?_
      refine ax_load (q := 168) rfl rfl rfl rfl rfl ?_
      refine ax_callv (q := 171) rfl rfl rfl rfl rfl rfl ?_
      have tnS : (D 135 43).toNat = nS := by rw [hV.hS]; exact Int.toNat_natCast _
      have tnO : (D 135 44).toNat = nO := by rw [hV.hO]; exact Int.toNat_natCast _
      have tnR : (D 135 45).toNat = nR := by rw [hV.hR]; exact Int.toNat_natCast _
      have tnP : (D 135 46).toNat = nP := by rw [hV.hP]; exact Int.toNat_natCast _
      have tnU : (D 135 47).toNat = nU := by rw [hV.hU]; exact Int.toNat_natCast _
      have hu : lin_ tp n D p = sb_ (tea_ tp n p) fun r => Sum.inr (tq_ (du_ D 135 57 1) r.2.1 r.2.2, r.1) := by unfold lin_; rw [if_neg c0, if_neg c1, if_neg c2, if_neg c3, if_neg c4, if_neg c5, if_pos ⟨hw, hc⟩]
      try simp only [tnS, tnO, tnR, tnP, tnU] at hu
      refine r_readTeach (D := du_ D 135 57 1) (by omega) (PS_s5 hP (by decide)) (f_s5 (by decide) h02) (RS_.s5 hR) (by have := hV.t0 hc; simp [du_, am_up, this]) ⟨fun e he σ' hf h0 hF => ?_, fun D' p' he σ' hf h2' hP' hR' => ?_⟩
      · refine ax_goto (x := 258) rfl ?_
        exact hQ.1 e (hu.trans he) σ' (RF_.tr (fp_s5 (RF_.rf σ) (by decide)) hf (by decide) (by decide) (by decide)) h0 hF
      · refine ax_goto (x := 258) rfl ?_
        exact hQ.2 _ _ (hu.trans he) σ' (RF_.tr (fp_s5 (RF_.rf σ) (by decide)) hf (by decide) (by decide) (by decide)) h2' hP' hR'

theorem rl_5 {d : Nat} (hd : 8 ≤ d) {tp : Nat → Int} {n p : Nat} {D : sp_T} {nS nO nR nP nU : Nat} (hV : DV_ D nS nO nR nP nU) {σ : am_S} (hP : PS_ tp n p σ) (h02 : σ.1 135 2 = 0) (hR : RS_ D σ) {Q : Option am_V → am_S → Prop} (hQ : LO_ tp n (lin_ tp n D p) σ (fun _ σ' => aW d 4 k_X9_readLine Q 258 [some (am_R 135)] [] σ')) (c0 : ¬ (wd_ tp n p 495723310188 ∧ D 135 43 < 4)) (c1 : ¬ (wd_ tp n p 478660552050 ∧ D 135 44 < 8)) (c2 : ¬ (wd_ tp n p 123563833652072 ∧ D 135 45 < 3)) (c3 : ¬ wd_ tp n p 1868850291) (c4 : ¬ (wd_ tp n p 123581014175598 ∧ D 135 46 < 6)) : aW d 4 k_X9_readLine Q 119 [some (am_R 135)] [] σ := by
  have k6 := hP.1.2.1
  have k9 := hP.1.2.2.2.2
  refine ax_load (q := 120) rfl rfl rfl rfl rfl ?_
  refine ax_const (q := 123) (v := am_J 129116991874419) rfl rfl rfl ?_
  refine ax_callv (q := 126) rfl rfl rfl rfl rfl rfl ?_
  refine m_isWord (by omega) ?_
  rw [k6, k9]
  refine ax_if_eq (q := 129) (x := 145) rfl rfl (fun h126 => ?_) (fun h126 => ?_)
  · have hw := of_decide_eq_false (it_0 h126)
    have hc : ¬ (wd_ tp n p 129116991874419 ∧ D 135 47 < 8) := fun q => hw q.1
    exact rl_6 hd hV hP h02 hR hQ c0 c1 c2 c3 c4 hc
  · have hw : wd_ tp n p 129116991874419 := of_decide_eq_true (it_n0 h126)
    refine ax_load (q := 130) rfl rfl rfl rfl rfl ?_
    refine ax_getf (q := 133) (v := am_I ((nU : Nat) : Int)) rfl rfl (am_fg rfl ((hR.2.1 47 (by decide)).trans hV.hU)) ?_
    refine ax_const (q := 135) (v := am_I 8) rfl rfl rfl ?_
    refine ax_icmp_ge (q := 138) (x := 145) rfl rfl (fun h135 => ?_) (fun h135 => ?_)
    · have hc : ¬ (wd_ tp n p 129116991874419 ∧ D 135 47 < 8) := fun q => by have := q.2; rw [hV.hU] at this; omega
      exact rl_6 hd hV hP h02 hR hQ c0 c1 c2 c3 c4 hc
    · have hc : D 135 47 < 8 := by rw [hV.hU]; omega
      refine ax_load (q := 139) rfl rfl rfl rfl rfl ?_
      refine ax_callv (q := 142) rfl rfl rfl rfl rfl rfl ?_
      have tnS : (D 135 43).toNat = nS := by rw [hV.hS]; exact Int.toNat_natCast _
      have tnO : (D 135 44).toNat = nO := by rw [hV.hO]; exact Int.toNat_natCast _
      have tnR : (D 135 45).toNat = nR := by rw [hV.hR]; exact Int.toNat_natCast _
      have tnP : (D 135 46).toNat = nP := by rw [hV.hP]; exact Int.toNat_natCast _
      have tnU : (D 135 47).toNat = nU := by rw [hV.hU]; exact Int.toNat_natCast _
      have hu : lin_ tp n D p = sb_ (und_ tp n (D 137) (D 150) (D 135 44).toNat p).1 fun p' => Sum.inr (du_ (du_ D 150 (und_ tp n (D 137) (D 150) (D 135 44).toNat p).2.1 (((D 150 (und_ tp n (D 137) (D 150) (D 135 44).toNat p).2.1).toNat ||| 2 ^ (und_ tp n (D 137) (D 150) (D 135 44).toNat p).2.2 : Nat) : Int)) 135 47 (((D 135 47).toNat + 1 : Nat) : Int), p') := by unfold lin_; rw [if_neg c0, if_neg c1, if_neg c2, if_neg c3, if_neg c4, if_pos ⟨hw, hc⟩]
      try simp only [tnS, tnO, tnR, tnP, tnU] at hu
      refine r_readUndoesN (nO := nO) (k := nU) (by omega) hP h02 hR.2.2 (hR.1 150 (by decide)) hV.un ((hR.2.1 44 (by decide)).trans hV.hO) hV.O8 ((hR.2.1 47 (by decide)).trans hV.hU) (by omega) (fun e he σ' hf h0 hF => ?_) (fun p' he σ' hf h2' hP' h150 h47 => ?_)
      · refine ax_goto (x := 258) rfl ?_
        exact hQ.1 e (hu.trans (sb_l he)) σ' (RF_.tr (RF_.rf σ) hf (by decide) (by decide) (by decide)) h0 hF
      · refine ax_goto (x := 258) rfl ?_
        refine hQ.2 _ _ (hu.trans (sb_r he)) σ' (RF_.tr (RF_.rf σ) hf (by decide) (by decide) (by decide)) h2' hP' (RS_.gen hR hf (fun a ha hA => ?_) (fun a ha hA => ?_) (fun k hk hF => ?_) (fun k hk hF => ?_) ?_)
        · have : a = 150 := by revert ha hA; revert a; decide
          subst this; rw [h150]; simp [du_, am_up]
        · unfold du_; rw [am_up_ne (by rintro rfl; revert ha; decide), am_up_ne (by rintro rfl; exact hA (by decide))]
        · have : k = 47 := by revert hk hF; revert k; decide
          subst this; rw [h47]; simp [du_, am_up]
        · have : k ≠ 47 := by rintro rfl; exact hF (by decide)
          simp [du_, am_up, this]
        · rw [hf.2.2.1 137 (by decide) (by decide), hR.2.2]; simp [du_, am_up]

theorem rl_4 {d : Nat} (hd : 8 ≤ d) {tp : Nat → Int} {n p : Nat} {D : sp_T} {nS nO nR nP nU : Nat} (hV : DV_ D nS nO nR nP nU) {σ : am_S} (hP : PS_ tp n p σ) (h02 : σ.1 135 2 = 0) (hR : RS_ D σ) {Q : Option am_V → am_S → Prop} (hQ : LO_ tp n (lin_ tp n D p) σ (fun _ σ' => aW d 4 k_X9_readLine Q 258 [some (am_R 135)] [] σ')) (c0 : ¬ (wd_ tp n p 495723310188 ∧ D 135 43 < 4)) (c1 : ¬ (wd_ tp n p 478660552050 ∧ D 135 44 < 8)) (c2 : ¬ (wd_ tp n p 123563833652072 ∧ D 135 45 < 3)) (c3 : ¬ wd_ tp n p 1868850291) : aW d 4 k_X9_readLine Q 93 [some (am_R 135)] [] σ := by
  have k6 := hP.1.2.1
  have k9 := hP.1.2.2.2.2
  refine ax_load (q := 94) rfl rfl rfl rfl rfl ?_
  refine ax_const (q := 97) (v := am_J 123581014175598) rfl rfl rfl ?_
  refine ax_callv (q := 100) rfl rfl rfl rfl rfl rfl ?_
  refine m_isWord (by omega) ?_
  rw [k6, k9]
  refine ax_if_eq (q := 103) (x := 119) rfl rfl (fun h100 => ?_) (fun h100 => ?_)
  · have hw := of_decide_eq_false (it_0 h100)
    have hc : ¬ (wd_ tp n p 123581014175598 ∧ D 135 46 < 6) := fun q => hw q.1
    exact rl_5 hd hV hP h02 hR hQ c0 c1 c2 c3 hc
  · have hw : wd_ tp n p 123581014175598 := of_decide_eq_true (it_n0 h100)
    refine ax_load (q := 104) rfl rfl rfl rfl rfl ?_
    refine ax_getf (q := 107) (v := am_I ((nP : Nat) : Int)) rfl rfl (am_fg rfl ((hR.2.1 46 (by decide)).trans hV.hP)) ?_
    refine ax_const (q := 109) (v := am_I 6) rfl rfl rfl ?_
    refine ax_icmp_ge (q := 112) (x := 119) rfl rfl (fun h109 => ?_) (fun h109 => ?_)
    · have hc : ¬ (wd_ tp n p 123581014175598 ∧ D 135 46 < 6) := fun q => by have := q.2; rw [hV.hP] at this; omega
      exact rl_5 hd hV hP h02 hR hQ c0 c1 c2 c3 hc
    · have hc : D 135 46 < 6 := by rw [hV.hP]; omega
      refine ax_load (q := 113) rfl rfl rfl rfl rfl ?_
      refine ax_callv (q := 116) rfl rfl rfl rfl rfl rfl ?_
      have tnS : (D 135 43).toNat = nS := by rw [hV.hS]; exact Int.toNat_natCast _
      have tnO : (D 135 44).toNat = nO := by rw [hV.hO]; exact Int.toNat_natCast _
      have tnR : (D 135 45).toNat = nR := by rw [hV.hR]; exact Int.toNat_natCast _
      have tnP : (D 135 46).toNat = nP := by rw [hV.hP]; exact Int.toNat_natCast _
      have tnU : (D 135 47).toNat = nU := by rw [hV.hU]; exact Int.toNat_natCast _
      have hu : lin_ tp n D p = per_ tp n D (D 135 46).toNat (D 135 43).toNat (D 135 45).toNat p := by unfold lin_; rw [if_neg c0, if_neg c1, if_neg c2, if_neg c3, if_pos ⟨hw, hc⟩]
      try simp only [tnS, tnO, tnR, tnP, tnU] at hu
      refine r_readPerson (by omega) hP h02 hR hV.hP (by omega) hV.hS hV.S4 hV.hR hV.R3 ⟨fun e he σ' hf h0 hF => ?_, fun D' p' he σ' hf h2' hP' hR' => ?_⟩
      · refine ax_goto (x := 258) rfl ?_
        exact hQ.1 e (hu.trans he) σ' hf h0 hF
      · refine ax_goto (x := 258) rfl ?_
        exact hQ.2 _ _ (hu.trans he) σ' hf h2' hP' hR'

theorem rl_3 {d : Nat} (hd : 8 ≤ d) {tp : Nat → Int} {n p : Nat} {D : sp_T} {nS nO nR nP nU : Nat} (hV : DV_ D nS nO nR nP nU) {σ : am_S} (hP : PS_ tp n p σ) (h02 : σ.1 135 2 = 0) (hR : RS_ D σ) {Q : Option am_V → am_S → Prop} (hQ : LO_ tp n (lin_ tp n D p) σ (fun _ σ' => aW d 4 k_X9_readLine Q 258 [some (am_R 135)] [] σ')) (c0 : ¬ (wd_ tp n p 495723310188 ∧ D 135 43 < 4)) (c1 : ¬ (wd_ tp n p 478660552050 ∧ D 135 44 < 8)) (c2 : ¬ (wd_ tp n p 123563833652072 ∧ D 135 45 < 3)) : aW d 4 k_X9_readLine Q 76 [some (am_R 135)] [] σ := by
  have k6 := hP.1.2.1
  have k9 := hP.1.2.2.2.2
  refine ax_load (q := 77) rfl rfl rfl rfl rfl ?_
  refine ax_const (q := 80) (v := am_J 1868850291) rfl rfl rfl ?_
  refine ax_callv (q := 83) rfl rfl rfl rfl rfl rfl ?_
  refine m_isWord (by omega) ?_
  rw [k6, k9]
  refine ax_if_eq (q := 86) (x := 93) rfl rfl (fun h83 => ?_) (fun h83 => ?_)
  · have hw := of_decide_eq_false (it_0 h83)
    have hc : ¬ wd_ tp n p 1868850291 := fun q => hw q
    exact rl_4 hd hV hP h02 hR hQ c0 c1 c2 hc
  · have hw : wd_ tp n p 1868850291 := of_decide_eq_true (it_n0 h83)
    refine ax_load (q := 87) rfl rfl rfl rfl rfl ?_
    refine ax_callv (q := 90) rfl rfl rfl rfl rfl rfl ?_
    have tnS : (D 135 43).toNat = nS := by rw [hV.hS]; exact Int.toNat_natCast _
    have tnO : (D 135 44).toNat = nO := by rw [hV.hO]; exact Int.toNat_natCast _
    have tnR : (D 135 45).toNat = nR := by rw [hV.hR]; exact Int.toNat_natCast _
    have tnP : (D 135 46).toNat = nP := by rw [hV.hP]; exact Int.toNat_natCast _
    have tnU : (D 135 47).toNat = nU := by rw [hV.hU]; exact Int.toNat_natCast _
    have hu : lin_ tp n D p = sb_ (odd_ tp n (D 137) (D 157) (D 135 45).toNat (D 135 44).toNat p).1 fun r => Sum.inr (du_ D 157 (odd_ tp n (D 137) (D 157) (D 135 45).toNat (D 135 44).toNat p).2 r.1, r.2) := by unfold lin_; rw [if_neg c0, if_neg c1, if_neg c2, if_pos hw]
    try simp only [tnS, tnO, tnR, tnP, tnU] at hu
    refine r_readOdds (nR := nR) (nO := nO) (by omega) hP h02 hR.2.2 (hR.1 157 (by decide)) ((hR.2.1 45 (by decide)).trans hV.hR) ((hR.2.1 44 (by decide)).trans hV.hO) hV.R3 hV.O8 (fun e he σ' hf h0 hF => ?_) (fun v p' he σ' hf h2' hP' h157 => ?_)
    · refine ax_goto (x := 258) rfl ?_
      exact hQ.1 e (hu.trans (sb_l he)) σ' (RF_.tr (RF_.rf σ) hf (by decide) (by decide) (by decide)) h0 hF
    · refine ax_goto (x := 258) rfl ?_
      refine hQ.2 _ _ (hu.trans (sb_r he)) σ' (RF_.tr (RF_.rf σ) hf (by decide) (by decide) (by decide)) h2' hP' (RS_.gen hR hf (fun a ha hA => ?_) (fun a ha hA => ?_) (fun k hk hF => ?_) (fun k hk hF => ?_) ?_)
      · have : a = 157 := by revert ha hA; revert a; decide
        subst this; rw [h157]; simp [du_, am_up]
      · unfold du_; rw [am_up_ne (by rintro rfl; exact hA (by decide))]
      · exact absurd hF (by revert hk; revert k; decide)
      · simp [du_, am_up]
      · rw [hf.2.2.1 137 (by decide) (by decide), hR.2.2]; simp [du_, am_up]

theorem rl_2 {d : Nat} (hd : 8 ≤ d) {tp : Nat → Int} {n p : Nat} {D : sp_T} {nS nO nR nP nU : Nat} (hV : DV_ D nS nO nR nP nU) {σ : am_S} (hP : PS_ tp n p σ) (h02 : σ.1 135 2 = 0) (hR : RS_ D σ) {Q : Option am_V → am_S → Prop} (hQ : LO_ tp n (lin_ tp n D p) σ (fun _ σ' => aW d 4 k_X9_readLine Q 258 [some (am_R 135)] [] σ')) (c0 : ¬ (wd_ tp n p 495723310188 ∧ D 135 43 < 4)) (c1 : ¬ (wd_ tp n p 478660552050 ∧ D 135 44 < 8)) : aW d 4 k_X9_readLine Q 51 [some (am_R 135)] [] σ := by
  have k6 := hP.1.2.1
  have k9 := hP.1.2.2.2.2
  refine ax_load (q := 52) rfl rfl rfl rfl rfl ?_
  refine ax_const (q := 55) (v := am_J 123563833652072) rfl rfl rfl ?_
  refine ax_callv (q := 58) rfl rfl rfl rfl rfl rfl ?_
  refine m_isWord (by omega) ?_
  rw [k6, k9]
  refine ax_if_eq (q := 61) (x := 76) rfl rfl (fun h58 => ?_) (fun h58 => ?_)
  · have hw := of_decide_eq_false (it_0 h58)
    have hc : ¬ (wd_ tp n p 123563833652072 ∧ D 135 45 < 3) := fun q => hw q.1
    exact rl_3 hd hV hP h02 hR hQ c0 c1 hc
  · have hw : wd_ tp n p 123563833652072 := of_decide_eq_true (it_n0 h58)
    refine ax_load (q := 62) rfl rfl rfl rfl rfl ?_
    refine ax_getf (q := 65) (v := am_I ((nR : Nat) : Int)) rfl rfl (am_fg rfl ((hR.2.1 45 (by decide)).trans hV.hR)) ?_
    refine ax_const (q := 66) (v := am_I 3) rfl rfl rfl ?_
    refine ax_icmp_ge (q := 69) (x := 76) rfl rfl (fun h66 => ?_) (fun h66 => ?_)
    · have hc : ¬ (wd_ tp n p 123563833652072 ∧ D 135 45 < 3) := fun q => by have := q.2; rw [hV.hR] at this; omega
      exact rl_3 hd hV hP h02 hR hQ c0 c1 hc
    · have hc : D 135 45 < 3 := by rw [hV.hR]; omega
      refine ax_load (q := 70) rfl rfl rfl rfl rfl ?_
      refine ax_callv (q := 73) rfl rfl rfl rfl rfl rfl ?_
      have tnS : (D 135 43).toNat = nS := by rw [hV.hS]; exact Int.toNat_natCast _
      have tnO : (D 135 44).toNat = nO := by rw [hV.hO]; exact Int.toNat_natCast _
      have tnR : (D 135 45).toNat = nR := by rw [hV.hR]; exact Int.toNat_natCast _
      have tnP : (D 135 46).toNat = nP := by rw [hV.hP]; exact Int.toNat_natCast _
      have tnU : (D 135 47).toNat = nU := by rw [hV.hU]; exact Int.toNat_natCast _
      have hu : lin_ tp n D p = sb_ (nwn_ tp n (D 137) 12 (D 135 45).toNat p) fun p' => Sum.inr (du_ (am_up (du_ D 137 (12 + (D 135 45).toNat) (tkw_ tp n (nxp_ tp n p))) 157 (cd_ (fun _ => 0) (D 157) (8 * (D 135 45).toNat) 8)) 135 45 (((D 135 45).toNat + 1 : Nat) : Int), p') := by unfold lin_; rw [if_neg c0, if_neg c1, if_pos ⟨hw, hc⟩]
      try simp only [tnS, tnO, tnR, tnP, tnU] at hu
      refine r_readParish (k := nR) (by omega) hP h02 hR.2.2 ((hR.2.1 45 (by decide)).trans hV.hR) (by omega) (fun e he σ' hf h0 hF => ?_) (fun p' he σ' hf h2' hP' h7 h45 h157 => ?_)
      · refine ax_goto (x := 258) rfl ?_
        exact hQ.1 e (hu.trans (sb_l he)) σ' (RF_.tr (RF_.rf σ) hf (by decide) (by decide) (by decide)) h0 hF
      · refine ax_goto (x := 258) rfl ?_
        refine hQ.2 _ _ (hu.trans (sb_r he)) σ' (RF_.tr (RF_.rf σ) hf (by decide) (by decide) (by decide)) h2' hP' (RS_.gen hR hf (fun a ha hA => ?_) (fun a ha hA => ?_) (fun k hk hF => ?_) (fun k hk hF => ?_) ?_)
        · have : a = 157 := by revert ha hA; revert a; decide
          subst this; rw [h157, hR.1 157 (by decide)]; simp [du_, am_up]
        · unfold du_; rw [am_up_ne (by rintro rfl; revert ha; decide), am_up_ne (by rintro rfl; exact hA (by decide)), am_up_ne (by rintro rfl; revert ha; decide)]
        · have : k = 45 := by revert hk hF; revert k; decide
          subst this; rw [h45]; simp [du_, am_up]
        · have : k ≠ 45 := by rintro rfl; exact hF (by decide)
          simp [du_, am_up, this]
        · rw [h7]; simp [du_, am_up]

theorem rl_1 {d : Nat} (hd : 8 ≤ d) {tp : Nat → Int} {n p : Nat} {D : sp_T} {nS nO nR nP nU : Nat} (hV : DV_ D nS nO nR nP nU) {σ : am_S} (hP : PS_ tp n p σ) (h02 : σ.1 135 2 = 0) (hR : RS_ D σ) {Q : Option am_V → am_S → Prop} (hQ : LO_ tp n (lin_ tp n D p) σ (fun _ σ' => aW d 4 k_X9_readLine Q 258 [some (am_R 135)] [] σ')) (c0 : ¬ (wd_ tp n p 495723310188 ∧ D 135 43 < 4)) : aW d 4 k_X9_readLine Q 25 [some (am_R 135)] [] σ := by
  have k6 := hP.1.2.1
  have k9 := hP.1.2.2.2.2
  refine ax_load (q := 26) rfl rfl rfl rfl rfl ?_
  refine ax_const (q := 29) (v := am_J 478660552050) rfl rfl rfl ?_
  refine ax_callv (q := 32) rfl rfl rfl rfl rfl rfl ?_
  refine m_isWord (by omega) ?_
  rw [k6, k9]
  refine ax_if_eq (q := 35) (x := 51) rfl rfl (fun h32 => ?_) (fun h32 => ?_)
  · have hw := of_decide_eq_false (it_0 h32)
    have hc : ¬ (wd_ tp n p 478660552050 ∧ D 135 44 < 8) := fun q => hw q.1
    exact rl_2 hd hV hP h02 hR hQ c0 hc
  · have hw : wd_ tp n p 478660552050 := of_decide_eq_true (it_n0 h32)
    refine ax_load (q := 36) rfl rfl rfl rfl rfl ?_
    refine ax_getf (q := 39) (v := am_I ((nO : Nat) : Int)) rfl rfl (am_fg rfl ((hR.2.1 44 (by decide)).trans hV.hO)) ?_
    refine ax_const (q := 41) (v := am_I 8) rfl rfl rfl ?_
    refine ax_icmp_ge (q := 44) (x := 51) rfl rfl (fun h41 => ?_) (fun h41 => ?_)
    · have hc : ¬ (wd_ tp n p 478660552050 ∧ D 135 44 < 8) := fun q => by have := q.2; rw [hV.hO] at this; omega
      exact rl_2 hd hV hP h02 hR hQ c0 hc
    · have hc : D 135 44 < 8 := by rw [hV.hO]; omega
      refine ax_load (q := 45) rfl rfl rfl rfl rfl ?_
      refine ax_callv (q := 48) rfl rfl rfl rfl rfl rfl ?_
      have tnS : (D 135 43).toNat = nS := by rw [hV.hS]; exact Int.toNat_natCast _
      have tnO : (D 135 44).toNat = nO := by rw [hV.hO]; exact Int.toNat_natCast _
      have tnR : (D 135 45).toNat = nR := by rw [hV.hR]; exact Int.toNat_natCast _
      have tnP : (D 135 46).toNat = nP := by rw [hV.hP]; exact Int.toNat_natCast _
      have tnU : (D 135 47).toNat = nU := by rw [hV.hU]; exact Int.toNat_natCast _
      have hu : lin_ tp n D p = ord_ tp n D (D 135 44).toNat (D 135 43).toNat p := by unfold lin_; rw [if_neg c0, if_pos ⟨hw, hc⟩]
      try simp only [tnS, tnO, tnR, tnP, tnU] at hu
      refine r_readOrder (by omega) hP h02 hR hV.hO (by omega) hV.hS hV.S4 ⟨fun e he σ' hf h0 hF => ?_, fun D' p' he σ' hf h2' hP' hR' => ?_⟩
      · refine ax_goto (x := 258) rfl ?_
        exact hQ.1 e (hu.trans he) σ' hf h0 hF
      · refine ax_goto (x := 258) rfl ?_
        exact hQ.2 _ _ (hu.trans he) σ' hf h2' hP' hR'

theorem rl_0 {d : Nat} (hd : 8 ≤ d) {tp : Nat → Int} {n p : Nat} {D : sp_T} {nS nO nR nP nU : Nat} (hV : DV_ D nS nO nR nP nU) {σ : am_S} (hP : PS_ tp n p σ) (h02 : σ.1 135 2 = 0) (hR : RS_ D σ) {Q : Option am_V → am_S → Prop} (hQ : LO_ tp n (lin_ tp n D p) σ (fun _ σ' => aW d 4 k_X9_readLine Q 258 [some (am_R 135)] [] σ'))  : aW d 4 k_X9_readLine Q 0 [some (am_R 135)] [] σ := by
  have k6 := hP.1.2.1
  have k9 := hP.1.2.2.2.2
  refine ax_load (q := 1) rfl rfl rfl rfl rfl ?_
  refine ax_const (q := 4) (v := am_J 495723310188) rfl rfl rfl ?_
  refine ax_callv (q := 7) rfl rfl rfl rfl rfl rfl ?_
  refine m_isWord (by omega) ?_
  rw [k6, k9]
  refine ax_if_eq (q := 10) (x := 25) rfl rfl (fun h7 => ?_) (fun h7 => ?_)
  · have hw := of_decide_eq_false (it_0 h7)
    have hc : ¬ (wd_ tp n p 495723310188 ∧ D 135 43 < 4) := fun q => hw q.1
    exact rl_1 hd hV hP h02 hR hQ  hc
  · have hw : wd_ tp n p 495723310188 := of_decide_eq_true (it_n0 h7)
    refine ax_load (q := 11) rfl rfl rfl rfl rfl ?_
    refine ax_getf (q := 14) (v := am_I ((nS : Nat) : Int)) rfl rfl (am_fg rfl ((hR.2.1 43 (by decide)).trans hV.hS)) ?_
    refine ax_const (q := 15) (v := am_I 4) rfl rfl rfl ?_
    refine ax_icmp_ge (q := 18) (x := 25) rfl rfl (fun h15 => ?_) (fun h15 => ?_)
    · have hc : ¬ (wd_ tp n p 495723310188 ∧ D 135 43 < 4) := fun q => by have := q.2; rw [hV.hS] at this; omega
      exact rl_1 hd hV hP h02 hR hQ  hc
    · have hc : D 135 43 < 4 := by rw [hV.hS]; omega
      refine ax_load (q := 19) rfl rfl rfl rfl rfl ?_
      refine ax_callv (q := 22) rfl rfl rfl rfl rfl rfl ?_
      have tnS : (D 135 43).toNat = nS := by rw [hV.hS]; exact Int.toNat_natCast _
      have tnO : (D 135 44).toNat = nO := by rw [hV.hO]; exact Int.toNat_natCast _
      have tnR : (D 135 45).toNat = nR := by rw [hV.hR]; exact Int.toNat_natCast _
      have tnP : (D 135 46).toNat = nP := by rw [hV.hP]; exact Int.toNat_natCast _
      have tnU : (D 135 47).toNat = nU := by rw [hV.hU]; exact Int.toNat_natCast _
      have hu : lin_ tp n D p = sb_ (nwn_ tp n (D 137) 0 (D 135 43).toNat p) fun p' => Sum.inr (du_ (du_ D 137 (0 + (D 135 43).toNat) (tkw_ tp n (nxp_ tp n p))) 135 43 (((D 135 43).toNat + 1 : Nat) : Int), p') := by unfold lin_; rw [if_pos ⟨hw, hc⟩]
      try simp only [tnS, tnO, tnR, tnP, tnU] at hu
      refine r_readSkill (k := nS) (by omega) hP h02 hR.2.2 ((hR.2.1 43 (by decide)).trans hV.hS) (by omega) (fun e he σ' hf h0 hF => ?_) (fun p' he σ' hf h2' hP' h7 h43 => ?_)
      · refine ax_goto (x := 258) rfl ?_
        exact hQ.1 e (hu.trans (sb_l he)) σ' (RF_.tr (RF_.rf σ) hf (by decide) (by decide) (by decide)) h0 hF
      · refine ax_goto (x := 258) rfl ?_
        refine hQ.2 _ _ (hu.trans (sb_r he)) σ' (RF_.tr (RF_.rf σ) hf (by decide) (by decide) (by decide)) h2' hP' (RS_.gen hR hf (fun a ha hA => by cases hA) (fun a ha _ => ?_) (fun k hk hF => ?_) (fun k hk hF => ?_) ?_)
        · unfold du_; rw [am_up_ne (by rintro rfl; revert ha; decide), am_up_ne (by rintro rfl; revert ha; decide)]
        · have : k = 43 := by revert hk hF; revert k; decide
          subst this; rw [h43]; simp [du_, am_up]
        · have : k ≠ 43 := by rintro rfl; exact hF (by decide)
          simp [du_, am_up, this]
        · rw [h7]; simp [du_, am_up]

theorem r_readLine {d : Nat} (hd : 9 ≤ d) {tp : Nat → Int} {n p : Nat} {D : sp_T} {nS nO nR nP nU : Nat} (hV : DV_ D nS nO nR nP nU) {σ : am_S} (hP : PS_ tp n p σ) (h02 : σ.1 135 2 = 0) (hR : RS_ D σ) {Q : Option am_V → am_S → Prop} (hQ : LO_ tp n (line_ tp n D p) σ Q) : am_Ev d 180 [am_R 135] σ Q := by
  obtain ⟨d, rfl⟩ : ∃ e, d = e + 1 := ⟨d - 1, by omega⟩
  refine ev_in (m := 180) (c := k_X9_readLine) (L := [some (am_R 135)]) rfl rfl rfl rfl rfl rfl ?_
  refine rl_0 (by omega) hV hP h02 hR ⟨fun e he σ1 hf1 h0 hF => ?_, fun D' p' he σ1 hf1 h21 hP1 hR1 => ?_⟩
  · have hbad := FT_pos hF h0
    refine ax_load (q := 259) rfl rfl rfl rfl rfl ?_
    refine ax_getf (q := 262) (v := am_I (σ1.1 135 2)) rfl rfl (rfl) ?_
    refine ax_if_ne (q := 265) (x := 279) rfl rfl (fun h262 => ?_) (fun h => absurd h (ne_p hbad))
    refine ax_load (q := 280) rfl rfl rfl rfl rfl ?_
    refine ax_getf (q := 283) (v := am_I (σ1.1 135 2)) rfl rfl (rfl) ?_
    refine ax_if_ne (q := 286) (x := 290) rfl rfl (fun h283 => ?_) (fun h => absurd h (ne_p hbad))
    refine ax_ret (r := none) rfl rfl ?_
    exact hQ.1 e (sb_l he) _ hf1 h0 hF
  · have k6 := hP1.1.2.1
    refine ax_load (q := 259) rfl rfl rfl rfl rfl ?_
    refine ax_getf (q := 262) (v := am_I 0) rfl rfl (am_fg rfl h21) ?_
    refine ax_if_ne (q := 265) (x := 279) rfl rfl (fun h => absurd h (by omega)) (fun h262 => ?_)
    refine ax_load (q := 266) rfl rfl rfl rfl rfl ?_
    refine ax_getf (q := 269) (v := am_I (tks_ tp n p')) rfl rfl (am_fg rfl k6) ?_
    refine ax_const (q := 271) (v := am_I 59) rfl rfl rfl ?_
    refine ax_icmp_eq (q := 274) (x := 279) rfl rfl (fun h271 => ?_) (fun h271 => ?_)
    · refine ax_load (q := 280) rfl rfl rfl rfl rfl ?_
      refine ax_getf (q := 283) (v := am_I 0) rfl rfl (am_fg rfl h21) ?_
      refine ax_if_ne (q := 286) (x := 290) rfl rfl (fun h => absurd h (by omega)) (fun h283 => ?_)
      refine ax_load (q := 287) rfl rfl rfl rfl rfl ?_
      refine ax_callv (q := 290) rfl rfl rfl rfl rfl rfl ?_
      refine m_tokenN (by omega) hP1 (fun σ2 hk2 hP2 => ?_)
      refine ax_ret (r := none) rfl rfl ?_
      exact hQ.2 _ _ ((sb_r he).trans (if_pos h271)) _ (RF_.tr hf1 hk2 (by decide) (by decide) (by decide)) ((hk2.2.1 2 (by decide)).trans h21) hP2 (RS_.tok hR1 hk2 (by decide))
    · refine ax_load (q := 275) rfl rfl rfl rfl rfl ?_
      refine ax_const (q := 276) (v := am_I 2) rfl rfl rfl ?_
      refine ax_callv (q := 279) rfl rfl rfl rfl rfl rfl ?_
      refine m_wrong (by omega) ?_
      rw [if_neg (by rw [h21]; decide)]
      obtain ⟨x1, hx1⟩ : ∃ s, s = wr_ σ1 2 := ⟨_, rfl⟩
      rw [← hx1]
      have hbad : 0 < x1.1 135 2 := by rw [hx1]; exact wr_2 σ1 (by decide)
      refine ax_load (q := 280) rfl rfl rfl rfl rfl ?_
      refine ax_getf (q := 283) (v := am_I (x1.1 135 2)) rfl rfl (rfl) ?_
      refine ax_if_ne (q := 286) (x := 290) rfl rfl (fun h283 => ?_) (fun h => absurd h (ne_p hbad))
      refine ax_ret (r := none) rfl rfl ?_
      rw [hx1]
      exact hQ.1 (2, p') ((sb_r he).trans (if_neg h271)) _ (fp_wr hf1 (by decide) (by decide)) (by show (0 : Int) < 2; decide) (FT_wr hP1 2)

