def kx_ (tp : Nat → Int) (n p : Nat) : Int := if tks_ tp n p = 0 then 102 else if tks_ tp n p = 3 then 103 else if tks_ tp n p = 2 then 101 else if tks_ tp n p = 1 then kf_ (tkw_ tp n p) 21 0 else tks_ tp n p
/-- the class's reader stands at the token that begins at p -/
def KX_ (tp : Nat → Int) (n p : Nat) (σ : am_S) : Prop := σ.1 66 7 = (p : Int) ∧ σ.1 66 6 = kx_ tp n p ∧ (tks_ tp n p = 1 → σ.2.1 66 8 = n5_ (tkw_ tp n p) ∧ WK_ (tkw_ tp n p)) ∧ (tks_ tp n p = 2 → σ.1 66 9 = tkn_ tp n p) ∧ (tks_ tp n p ≠ 3 → σ.1 66 5 = (tka_ tp n p : Int))
theorem i2c_b : ∀ k : Nat, k < 256 → am_i2c (am_and (sg8_ (k : Int)) 255) = (k : Int) := by decide +kernel
theorem idx_b : ∀ k : Nat, k < 256 → (am_idx (k : Int) < 0 ↔ si_ (k : Int) = false) := by decide +kernel

theorem KX_.e {tp : Nat → Int} {n p : Nat} {σ : am_S} (hp : ¬ p < n) (h7 : σ.1 66 7 = (p : Int)) (h6 : σ.1 66 6 = 102) (h5 : σ.1 66 5 = (p : Int)) : KX_ tp n p σ := by
  have e := hr_out (tp := tp) hp
  have es : tks_ tp n p = 0 := by unfold tks_; rw [e]; exact if_pos (by decide)
  have el : tkl_ tp n p = 0 := by unfold tkl_; rw [e]; exact if_pos (by decide)
  refine ⟨h7, by unfold kx_; rw [if_pos es]; exact h6, fun q => by rw [es] at q; exact absurd q (by decide), fun q => by rw [es] at q; exact absurd q (by decide), fun _ => ?_⟩
  unfold tka_
  rw [if_neg (by rw [es]; decide), el]
  exact h5
theorem KX_.w {tp : Nat → Int} {n p : Nat} {σ : am_S} (hpn : p ≤ n) (hl : lt_ (hr_ tp n p) = true) (h7 : σ.1 66 7 = (p : Int)) (h5 : σ.1 66 5 = ((p + rl_ lt_ tp n (n - p) p : Nat) : Int)) (h6 : σ.1 66 6 = kz_ (wdv_ tp n p (rl_ lt_ tp n (n - p) p)) (rl_ lt_ tp n (n - p) p)) (h8 : σ.2.1 66 8 = bw_ tp n p (rl_ lt_ tp n (n - p) p)) : KX_ tp n p σ := by
  obtain ⟨r1, r2⟩ := rl_at lt_ tp n (by decide) (n - p) p (by omega)
  have h0 : ¬ hr_ tp n p < 0 := by unfold lt_ at hl; rw [decide_eq_true_eq] at hl; omega
  have el : tkl_ tp n p = rl_ lt_ tp n (n - p) p := by unfold tkl_; rw [if_neg h0, if_pos hl]
  have ew : tkw_ tp n p = wdv_ tp n p (rl_ lt_ tp n (n - p) p) := by unfold tkw_; rw [if_neg h0, if_pos hl, el]
  have es : tks_ tp n p = if 8 < rl_ lt_ tp n (n - p) p then 3 else 1 := by unfold tks_; rw [if_neg h0, if_pos hl, el]
  generalize rl_ lt_ tp n (n - p) p = Ln at *
  by_cases q : 8 < Ln
  · rw [if_pos q] at es
    refine ⟨h7, ?_, fun w => by rw [es] at w; exact absurd w (by decide), fun w => by rw [es] at w; exact absurd w (by decide), fun w => absurd es w⟩
    unfold kx_
    rw [es, if_neg (by decide), if_pos rfl, h6]
    exact if_pos q
  · rw [if_neg q] at es
    obtain ⟨b1, b2⟩ := bw_n5 (by omega) r1
    refine ⟨h7, ?_, fun _ => ⟨by rw [ew, h8]; exact b1, by rw [ew]; exact b2⟩, fun w => by rw [es] at w; exact absurd w (by decide), fun _ => ?_⟩
    · unfold kx_
      rw [es, if_neg (by decide), if_neg (by decide), if_neg (by decide), if_pos rfl, h6, ew]
      exact if_neg q
    · unfold tka_
      rw [if_neg (by rw [es]; decide), el]
      exact h5
theorem KX_.d {tp : Nat → Int} {n p : Nat} {σ : am_S} (hpn : p ≤ n) (hl : dt_ (hr_ tp n p) = true) (h7 : σ.1 66 7 = (p : Int)) (h5 : σ.1 66 5 = ((p + rl_ dt_ tp n (n - p) p : Nat) : Int)) (h6 : σ.1 66 6 = (if decide (4 < rl_ dt_ tp n (n - p) p) || lt_ (hr_ tp n (p + rl_ dt_ tp n (n - p) p)) then 103 else 101)) (h9 : σ.1 66 9 = nd8_ tp n p (rl_ dt_ tp n (n - p) p)) : KX_ tp n p σ := by
  obtain ⟨r1, r2⟩ := rl_at dt_ tp n (by decide) (n - p) p (by omega)
  have hd := hl
  unfold dt_ at hd
  rw [decide_eq_true_eq] at hd
  have h0 : ¬ hr_ tp n p < 0 := by omega
  have hlt : ¬ lt_ (hr_ tp n p) = true := by unfold lt_; rw [decide_eq_true_eq]; omega
  have el : tkl_ tp n p = rl_ dt_ tp n (n - p) p := by unfold tkl_; rw [if_neg h0, if_neg hlt, if_pos hl]
  have en : tkn_ tp n p = nv_ tp n p (rl_ dt_ tp n (n - p) p) := by unfold tkn_; rw [if_neg h0, if_neg hlt, if_pos hl, el]
  have es : tks_ tp n p = if decide (4 < rl_ dt_ tp n (n - p) p) || lt_ (hr_ tp n (p + rl_ dt_ tp n (n - p) p)) then 3 else 2 := by unfold tks_; rw [if_neg h0, if_neg hlt, if_pos hl, el]
  generalize rl_ dt_ tp n (n - p) p = Ln at *
  by_cases q : (decide (4 < Ln) || lt_ (hr_ tp n (p + Ln))) = true
  · rw [if_pos q] at es h6
    refine ⟨h7, ?_, fun w => by rw [es] at w; exact absurd w (by decide), fun w => by rw [es] at w; exact absurd w (by decide), fun w => absurd es w⟩
    unfold kx_
    rw [es, if_neg (by decide), if_pos rfl, h6]
  · rw [if_neg q] at es h6
    have h4 : Ln ≤ 4 := by
      by_cases w : 4 < Ln
      · exact absurd (by rw [decide_eq_true w]; rfl) q
      · omega
    refine ⟨h7, ?_, fun w => by rw [es] at w; exact absurd w (by decide), fun _ => by rw [en, h9]; exact (nx_nv Ln h4 r1).1, fun _ => ?_⟩
    · unfold kx_
      rw [es, if_neg (by decide), if_neg (by decide), if_pos rfl, h6]
    · unfold tka_
      rw [if_neg (by rw [es]; decide), el]
      exact h5
theorem KX_.s {tp : Nat → Int} {n p : Nat} {σ : am_S} (h0 : ¬ hr_ tp n p < 0) (hl : lt_ (hr_ tp n p) = false) (hd : dt_ (hr_ tp n p) = false) (h7 : σ.1 66 7 = (p : Int)) (h5 : σ.1 66 5 = ((p + 1 : Nat) : Int)) (h6 : σ.1 66 6 = if si_ (hr_ tp n p) then hr_ tp n p else 103) : KX_ tp n p σ := by
  have el : tkl_ tp n p = 1 := by unfold tkl_; rw [if_neg h0, if_neg (by rw [hl]; decide), if_neg (by rw [hd]; decide)]
  have es : tks_ tp n p = if si_ (hr_ tp n p) then hr_ tp n p else 3 := by unfold tks_; rw [if_neg h0, if_neg (by rw [hl]; decide), if_neg (by rw [hd]; decide)]
  by_cases q : si_ (hr_ tp n p) = true
  · rw [if_pos q] at es h6
    unfold si_ at q
    rw [decide_eq_true_eq] at q
    refine ⟨h7, ?_, fun w => by omega, fun w => by omega, fun _ => ?_⟩
    · unfold kx_
      rw [if_neg (by omega), if_neg (by omega), if_neg (by omega), if_neg (by omega), h6, es]
    · unfold tka_
      rw [if_neg (by omega), el]
      exact h5
  · rw [if_neg q] at es h6
    refine ⟨h7, ?_, fun w => by rw [es] at w; exact absurd w (by decide), fun w => by rw [es] at w; exact absurd w (by decide), fun w => absurd es w⟩
    unfold kx_
    rw [es, if_neg (by decide), if_pos rfl, h6]

theorem xl_next52 {d : Nat} (hd : 2 ≤ d) {σ : am_S} {tp : Nat → Int} {n : Nat} {q : Int} (hW : WT_ σ) {p : Nat} (hpn : p ≤ n) {Q : Option am_V → am_S → Prop} (hQ : ∀ σ', gx_ [] [] [5, 6, 7, 9] σ σ' → KX_ tp n p σ' → Q none σ') {σ' : am_S} (hf : gx_ [] [] [5, 6, 7, 9] σ σ') (hR' : RD_ tp n q p σ') : aW d 4 k_X4_next Q 52 [some (am_R 66)] [] σ' := by
  have n9 := hR'.n9
  refine ax_load (q := 53) rfl rfl rfl rfl rfl ?_
  refine ax_load (q := 54) rfl rfl rfl rfl rfl ?_
  refine ax_getf (q := 57) (v := am_I ((p : Nat) : Int)) rfl rfl (am_fg rfl hR'.at_) ?_
  refine ax_putf (q := 60) rfl rfl rfl ?_
  obtain ⟨σ1, h1⟩ : ∃ u, u = (am_sI σ' 66 (am_up (σ'.1 66) 7 ((p : Nat) : Int))) := ⟨_, rfl⟩
  show aW d 4 k_X4_next Q 60 [some (am_R 66)] [] (am_sI σ' 66 (am_up (σ'.1 66) 7 ((p : Nat) : Int)))
  rw [← h1]
  have hf1 : gx_ [] [] [5, 6, 7, 9] σ σ1 := by rw [h1]; exact gx_s hf (by simp)
  have hR1 : RD_ tp n p p σ1 := ⟨by rw [h1, sI_ne (by decide)]; exact hR'.tx, by rw [h1, sI_at, am_up_ne (by decide)]; exact hR'.ln, n9, by rw [h1, sI_at, am_up_ne (by decide)]; exact hR'.at_, by rw [h1, sI_at, am_up_same]⟩
  have hW1 : WT_ σ1 := fun i hi => by rw [hf1.2.2.1 67 (by simp) (by decide)]; exact hW i hi
  refine ax_load (q := 61) rfl rfl rfl rfl rfl ?_
  refine ax_getf (q := 64) (v := am_I ((p : Nat) : Int)) rfl rfl (am_fg rfl hR1.at_) ?_
  refine ax_load (q := 65) rfl rfl rfl rfl rfl ?_
  refine ax_getf (q := 68) (v := am_I ((n : Nat) : Int)) rfl rfl (am_fg rfl hR1.ln) ?_
  refine ax_icmp_lt (q := 71) (x := 80) rfl rfl (fun h68 => ?_) (fun h68 => ?_)
  · refine ax_load (q := 81) rfl rfl rfl rfl rfl ?_
    refine ax_getf (q := 84) (v := am_R 1) rfl rfl (rfl) ?_
    refine ax_load (q := 85) rfl rfl rfl rfl rfl ?_
    refine ax_getf (q := 88) (v := am_I ((p : Nat) : Int)) rfl rfl (am_fg rfl hR1.at_) ?_
    refine bx_bald (q := 89) (k := p) (z := σ1.1 1 p) rfl rfl (Or.inl rfl) (by omega) (by omega) (rfl) ?_
    refine ax_calls (q := 92) rfl rfl rfl rfl rfl ?_
    refine x_isLetter (by omega) ?_
    rw [lt_sg hR1.tx (by omega)]
    refine ax_if_eq (q := 95) (x := 102) rfl rfl (fun h92 => ?_) (fun h92 => ?_)
    · have hb92 := it_0 h92
      refine ax_load (q := 103) rfl rfl rfl rfl rfl ?_
      refine ax_getf (q := 106) (v := am_R 1) rfl rfl (rfl) ?_
      refine ax_load (q := 107) rfl rfl rfl rfl rfl ?_
      refine ax_getf (q := 110) (v := am_I ((p : Nat) : Int)) rfl rfl (am_fg rfl hR1.at_) ?_
      refine bx_bald (q := 111) (k := p) (z := σ1.1 1 p) rfl rfl (Or.inl rfl) (by omega) (by omega) (rfl) ?_
      refine ax_calls (q := 114) rfl rfl rfl rfl rfl ?_
      refine x_isDigit (by omega) ?_
      rw [dt_sg hR1.tx (by omega)]
      refine ax_if_eq (q := 117) (x := 124) rfl rfl (fun h114 => ?_) (fun h114 => ?_)
      · have hb114 := it_0 h114
        have hv := hR1.tx p (by omega)
        have hz : am_i2c (am_and (σ1.1 1 p) 255) = hr_ tp n p := by
          rw [hr_in (by omega), hv.1]
          obtain ⟨k, hk⟩ : ∃ k : Nat, tp p = (k : Int) := ⟨(tp p).toNat, by omega⟩
          rw [hk]
          exact i2c_b k (by omega)
        have h0 : ¬ hr_ tp n p < 0 := by rw [hr_in (by omega)]; omega
        have hix : am_idx (hr_ tp n p) < 0 ↔ si_ (hr_ tp n p) = false := by
          rw [hr_in (by omega)]
          obtain ⟨k, hk⟩ : ∃ k : Nat, tp p = (k : Int) := ⟨(tp p).toNat, by omega⟩
          rw [hk]
          exact idx_b k (by omega)
        refine ax_load (q := 125) rfl rfl rfl rfl rfl ?_
        refine ax_ldcs (q := 127) rfl rfl rfl ?_
        refine ax_load (q := 128) rfl rfl rfl rfl rfl ?_
        refine ax_getf (q := 131) (v := am_R 1) rfl rfl (rfl) ?_
        refine ax_load (q := 132) rfl rfl rfl rfl rfl ?_
        refine ax_getf (q := 135) (v := am_I ((p : Nat) : Int)) rfl rfl (am_fg rfl hR1.at_) ?_
        refine bx_bald (q := 136) (k := p) (z := σ1.1 1 p) rfl rfl (Or.inl rfl) (by omega) (by omega) (rfl) ?_
        refine ax_const (q := 139) (v := am_I 255) rfl rfl rfl ?_
        refine ax_iand (q := 140) (z := am_and (σ1.1 1 p) 255) rfl rfl (rfl) ?_
        refine ax_i2c (q := 141) rfl rfl ?_
        refine ax_index (q := 144) rfl rfl rfl (by omega) ?_
        refine ax_if_ge (q := 147) (x := 152) rfl rfl (fun h144 => ?_) (fun h144 => ?_)
        · rw [hz] at h144
          have hsi : si_ (hr_ tp n p) = true := by
            cases w : si_ (hr_ tp n p) with
            | true => rfl
            | false => have := hix.mpr w; omega
          refine ax_load (q := 153) rfl rfl rfl rfl rfl ?_
          refine ax_getf (q := 156) (v := am_R 1) rfl rfl (rfl) ?_
          refine ax_load (q := 157) rfl rfl rfl rfl rfl ?_
          refine ax_getf (q := 160) (v := am_I ((p : Nat) : Int)) rfl rfl (am_fg rfl hR1.at_) ?_
          refine bx_bald (q := 161) (k := p) (z := σ1.1 1 p) rfl rfl (Or.inl rfl) (by omega) (by omega) (rfl) ?_
          refine ax_putf (q := 164) rfl rfl rfl ?_
          refine ax_load (q := 165) rfl rfl rfl rfl rfl ?_
          refine ax_dup (q := 166) rfl rfl rfl ?_
          refine ax_getf (q := 169) (v := am_I ((p : Nat) : Int)) rfl rfl (am_fg rfl (by rw [sI_at, am_up_ne (by decide)]; exact hR1.at_)) ?_
          refine ax_const (q := 170) (v := am_I 1) rfl rfl rfl ?_
          refine ax_iadd (q := 171) (z := (((p + 1) : Nat) : Int)) rfl rfl (am_we (by omega) (by omega) (by omega)) ?_
          refine ax_putf (q := 174) rfl rfl rfl ?_
          refine ax_ret (r := none) rfl rfl ?_
          exact hQ _ (gx_s (gx_s hf1 (by simp)) (by simp)) (KX_.s h0 hb92 hb114 (by rw [sI_at, am_up_ne (by decide), sI_at, am_up_ne (by decide)]; exact hR1.pl) (by rw [sI_at, am_up_same]) (by rw [sI_at, am_up_ne (by decide), sI_at, am_up_same]; rw [hsi, if_pos rfl]; unfold si_ at hsi; rw [decide_eq_true_eq] at hsi; rw [hr_in (by omega)] at hsi ⊢; rw [hv.1]; exact if_pos (by omega)))
        · rw [hz] at h144
          have hsi : si_ (hr_ tp n p) = false := by
            exact hix.mp (by omega)
          refine ax_const (q := 149) (v := am_I 103) rfl rfl rfl ?_
          refine ax_goto (x := 161) rfl ?_
          refine ax_putf (q := 164) rfl rfl rfl ?_
          refine ax_load (q := 165) rfl rfl rfl rfl rfl ?_
          refine ax_dup (q := 166) rfl rfl rfl ?_
          refine ax_getf (q := 169) (v := am_I ((p : Nat) : Int)) rfl rfl (am_fg rfl (by rw [sI_at, am_up_ne (by decide)]; exact hR1.at_)) ?_
          refine ax_const (q := 170) (v := am_I 1) rfl rfl rfl ?_
          refine ax_iadd (q := 171) (z := (((p + 1) : Nat) : Int)) rfl rfl (am_we (by omega) (by omega) (by omega)) ?_
          refine ax_putf (q := 174) rfl rfl rfl ?_
          refine ax_ret (r := none) rfl rfl ?_
          exact hQ _ (gx_s (gx_s hf1 (by simp)) (by simp)) (KX_.s h0 hb92 hb114 (by rw [sI_at, am_up_ne (by decide), sI_at, am_up_ne (by decide)]; exact hR1.pl) (by rw [sI_at, am_up_same]) (by rw [sI_at, am_up_ne (by decide), sI_at, am_up_same]; rw [hsi]; rfl))
      · have hb114 := it_n0 h114
        refine ax_load (q := 118) rfl rfl rfl rfl rfl ?_
        refine ax_callv (q := 121) rfl rfl rfl rfl rfl rfl ?_
        obtain ⟨r1, r2⟩ := rl_at dt_ tp n (by decide) (n - p) p (by omega)
        refine x_scanNumber (Ln := rl_ dt_ tp n (n - p) p) (by omega) hR1 (by have := rl_le dt_ tp n (n - p) p; omega) r1 r2 (fun σ3 hf3 g5 g6 g9 => ?_)
        refine ax_goto (x := 174) rfl ?_
        refine ax_ret (r := none) rfl rfl ?_
        exact hQ _ (gx_tr hf1 hf3 (fun _ q => q) (fun _ q => q) (fun _ q => q) (fun _ q => q) (fun _ q => q) (by intro x hx; simp at hx ⊢; omega)) (KX_.d hpn hb114 ((hf3.2.1 7 (by simp)).trans hR1.pl) g5 g6 g9)
    · have hb92 := it_n0 h92
      refine ax_load (q := 96) rfl rfl rfl rfl rfl ?_
      refine ax_callv (q := 99) rfl rfl rfl rfl rfl rfl ?_
      obtain ⟨r1, r2⟩ := rl_at lt_ tp n (by decide) (n - p) p (by omega)
      refine x_scanWord (Ln := rl_ lt_ tp n (n - p) p) (by omega) hR1 hW1 (by have := rl_le lt_ tp n (n - p) p; omega) r1 r2 (fun σ2 hf2 g5 g6 g8 => ?_)
      refine ax_goto (x := 174) rfl ?_
      refine ax_ret (r := none) rfl rfl ?_
      exact hQ _ (gx_tr hf1 hf2 (fun _ q => q) (fun _ q => q) (fun _ q => q) (fun _ q => q) (fun _ q => q) (by intro x hx; simp at hx ⊢; omega)) (KX_.w hpn hb92 ((hf2.2.1 7 (by simp)).trans hR1.pl) g5 g6 g8)
  · refine ax_load (q := 72) rfl rfl rfl rfl rfl ?_
    refine ax_const (q := 74) (v := am_I 102) rfl rfl rfl ?_
    refine ax_putf (q := 77) rfl rfl rfl ?_
    refine ax_goto (x := 174) rfl ?_
    refine ax_ret (r := none) rfl rfl ?_
    exact hQ _ (gx_s hf1 (by simp)) (KX_.e (by omega) (by rw [sI_at, am_up_ne (by decide)]; exact hR1.pl) (by rw [sI_at, am_up_same]) (by rw [sI_at, am_up_ne (by decide)]; exact hR1.at_))

theorem xl_skip {d : Nat} (hd : 2 ≤ d) {σ : am_S} {tp : Nat → Int} {n : Nat} {q : Int} {a0 : Nat} (hW : WT_ σ) {Q : Option am_V → am_S → Prop} (hQ : ∀ σ', gx_ [] [] [5, 6, 7, 9] σ σ' → KX_ tp n (skp_ tp n (n - a0) a0) σ' → Q none σ') : ∀ (m a : Nat), a + m = n → skp_ tp n (n - a0) a0 = skp_ tp n m a → ∀ σ', gx_ [] [] [5, 6, 7, 9] σ σ' → RD_ tp n q a σ' → aW d 4 k_X4_next Q 0 [some (am_R 66)] [] σ' := by
  intro m
  induction m with
  | zero =>
    intro a ha hsk σ' hf hR'
    have n9 := hR'.n9
    refine ax_load (q := 1) rfl rfl rfl rfl rfl ?_
    refine ax_getf (q := 4) (v := am_I ((a : Nat) : Int)) rfl rfl (am_fg rfl hR'.at_) ?_
    refine ax_load (q := 5) rfl rfl rfl rfl rfl ?_
    refine ax_getf (q := 8) (v := am_I ((n : Nat) : Int)) rfl rfl (am_fg rfl hR'.ln) ?_
    refine ax_icmp_ge (q := 11) (x := 52) rfl rfl (fun h8 => ?_) (fun h => absurd h (by omega))
    rw [hsk] at hQ
    exact xl_next52 hd hW (by show a ≤ n; omega) hQ hf hR'
  | succ m ih =>
    intro a ha hsk σ' hf hR'
    have n9 := hR'.n9
    have hv := hR'.tx a (by omega)
    have hh := hr_in (tp := tp) (n := n) (k := a) (by omega)
    have e32 : σ'.1 1 a = 32 ↔ hr_ tp n a = 32 := by rw [hv.1, hh]; unfold sg8_; split <;> omega
    have e10 : σ'.1 1 a = 10 ↔ hr_ tp n a = 10 := by rw [hv.1, hh]; unfold sg8_; split <;> omega
    refine ax_load (q := 1) rfl rfl rfl rfl rfl ?_
    refine ax_getf (q := 4) (v := am_I ((a : Nat) : Int)) rfl rfl (am_fg rfl hR'.at_) ?_
    refine ax_load (q := 5) rfl rfl rfl rfl rfl ?_
    refine ax_getf (q := 8) (v := am_I ((n : Nat) : Int)) rfl rfl (am_fg rfl hR'.ln) ?_
    refine ax_icmp_ge (q := 11) (x := 52) rfl rfl (fun h => absurd h (by omega)) (fun h8 => ?_)
    refine ax_load (q := 12) rfl rfl rfl rfl rfl ?_
    refine ax_getf (q := 15) (v := am_R 1) rfl rfl (rfl) ?_
    refine ax_load (q := 16) rfl rfl rfl rfl rfl ?_
    refine ax_getf (q := 19) (v := am_I ((a : Nat) : Int)) rfl rfl (am_fg rfl hR'.at_) ?_
    refine bx_bald (q := 20) (k := a) (z := σ'.1 1 a) rfl rfl (Or.inl rfl) (by omega) (by omega) (rfl) ?_
    refine ax_const (q := 22) (v := am_I 32) rfl rfl rfl ?_
    refine ax_icmp_eq (q := 25) (x := 39) rfl rfl (fun h22 => ?_) (fun h22 => ?_)
    · refine ax_load (q := 40) rfl rfl rfl rfl rfl ?_
      refine ax_dup (q := 41) rfl rfl rfl ?_
      refine ax_getf (q := 44) (v := am_I ((a : Nat) : Int)) rfl rfl (am_fg rfl hR'.at_) ?_
      refine ax_const (q := 45) (v := am_I 1) rfl rfl rfl ?_
      refine ax_iadd (q := 46) (z := (((a + 1) : Nat) : Int)) rfl rfl (am_we (by omega) (by omega) (by omega)) ?_
      refine ax_putf (q := 49) rfl rfl rfl ?_
      refine ax_goto (x := 0) rfl ?_
      rw [show skp_ tp n (m + 1) a = skp_ tp n m (a + 1) from if_pos (by omega)] at hsk
      have hfz := gx_s hf (k := 5) (z := ((a + 1 : Nat) : Int)) (by simp)
      exact ih (a + 1) (by omega) hsk _ hfz ⟨by rw [sI_ne (by decide)]; exact hR'.tx, by rw [sI_at, am_up_ne (by decide)]; exact hR'.ln, n9, by rw [sI_at, am_up_same], by rw [sI_at, am_up_ne (by decide)]; exact hR'.pl⟩
    · refine ax_load (q := 26) rfl rfl rfl rfl rfl ?_
      refine ax_getf (q := 29) (v := am_R 1) rfl rfl (rfl) ?_
      refine ax_load (q := 30) rfl rfl rfl rfl rfl ?_
      refine ax_getf (q := 33) (v := am_I ((a : Nat) : Int)) rfl rfl (am_fg rfl hR'.at_) ?_
      refine bx_bald (q := 34) (k := a) (z := σ'.1 1 a) rfl rfl (Or.inl rfl) (by omega) (by omega) (rfl) ?_
      refine ax_const (q := 36) (v := am_I 10) rfl rfl rfl ?_
      refine ax_icmp_ne (q := 39) (x := 52) rfl rfl (fun h36 => ?_) (fun h36 => ?_)
      · rw [show skp_ tp n (m + 1) a = a from if_neg (by omega)] at hsk
        rw [hsk] at hQ
        exact xl_next52 hd hW (by omega) hQ hf hR'
      · refine ax_load (q := 40) rfl rfl rfl rfl rfl ?_
        refine ax_dup (q := 41) rfl rfl rfl ?_
        refine ax_getf (q := 44) (v := am_I ((a : Nat) : Int)) rfl rfl (am_fg rfl hR'.at_) ?_
        refine ax_const (q := 45) (v := am_I 1) rfl rfl rfl ?_
        refine ax_iadd (q := 46) (z := (((a + 1) : Nat) : Int)) rfl rfl (am_we (by omega) (by omega) (by omega)) ?_
        refine ax_putf (q := 49) rfl rfl rfl ?_
        refine ax_goto (x := 0) rfl ?_
        rw [show skp_ tp n (m + 1) a = skp_ tp n m (a + 1) from if_pos (by omega)] at hsk
        have hfz := gx_s hf (k := 5) (z := ((a + 1 : Nat) : Int)) (by simp)
        exact ih (a + 1) (by omega) hsk _ hfz ⟨by rw [sI_ne (by decide)]; exact hR'.tx, by rw [sI_at, am_up_ne (by decide)]; exact hR'.ln, n9, by rw [sI_at, am_up_same], by rw [sI_at, am_up_ne (by decide)]; exact hR'.pl⟩

theorem x_next {d : Nat} (hd : 3 ≤ d) {σ : am_S} {tp : Nat → Int} {n : Nat} {q : Int} {a : Nat} (hW : WT_ σ) (hR : RD_ tp n q a σ) (han : a ≤ n) {Q : Option am_V → am_S → Prop} (hQ : ∀ σ', gx_ [] [] [5, 6, 7, 9] σ σ' → KX_ tp n (skp_ tp n (n - a) a) σ' → Q none σ') : am_Ev d 65 [am_R 66] σ Q := by
  obtain ⟨d, rfl⟩ : ∃ e, d = e + 1 := ⟨d - 1, by omega⟩
  refine ev_in (m := 65) (c := k_X4_next) (L := [some (am_R 66)]) rfl rfl rfl rfl rfl rfl ?_
  exact xl_skip (by omega) hW hQ (n - a) a (by omega) rfl σ (gx_rf _ _ _ _) hR

