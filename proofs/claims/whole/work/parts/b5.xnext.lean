def kx_ (tp : Nat → Int) (n p : Nat) : Int := if tks_ tp n p = 0 then 102 else if tks_ tp n p = 3 then 103 else if tks_ tp n p = 2 then 101 else if tks_ tp n p = 1 then kf_ (tkw_ tp n p) 21 0 else tks_ tp n p
/-- the class's reader stands at the token that begins at p -/
def KX_ (tp : Nat → Int) (n p : Nat) (σ : am_S) : Prop := σ.1 66 7 = (p : Int) ∧ σ.1 66 6 = kx_ tp n p ∧ (tks_ tp n p = 1 → σ.2.1 66 8 = n5_ (tkw_ tp n p) ∧ WK_ (tkw_ tp n p)) ∧ (tks_ tp n p = 2 → σ.1 66 9 = tkn_ tp n p) ∧ (tks_ tp n p ≠ 3 → σ.1 66 5 = (tka_ tp n p : Int))
theorem i2c_b : ∀ k : Nat, k < 256 → am_i2c (am_and (sg8_ (k : Int)) 255) = (k : Int) := by decide +kernel
theorem idx_b : ∀ k : Nat, k < 256 → (am_idx (k : Int) < 0 ↔ si_ (k : Int) = false) := by decide +kernel

theorem KX_.e {tp : Nat → Int} {n p : Nat} {σ : am_S} (hp : ¬ p < n) (h7 : σ.1 66 7 = (p : Int)) (h6 : σ.1 66 6 = 102) (h5 : σ.1 66 5 = (p : Int)) : KX_ tp n p σ := by
  have e := hr_out (tp := tp) hp
  have es : tks_ tp n p = 0 := by unfold tks_; rw [e]; exact if_pos (by decide)
  have el : tkl_ tp n p = 0 := by unfold tkl_; rw [e]; exact if_pos (by decide)
  refine ⟨h7, by unfold kx_; rw [if_pos es]; exact h6, fun q => by rw [es] at q; exact absurd q (by decide), fun q => by rw [es] at q; exact absurd q (by decide), fun _ => ?_⟩
  unfold tka_
  rw [if_neg (by rw [es]; decide), el]
  exact h5
theorem KX_.w {tp : Nat → Int} {n p : Nat} {σ : am_S} (hpn : p ≤ n) (hl : lt_ (hr_ tp n p) = true) (h7 : σ.1 66 7 = (p : Int)) (h5 : σ.1 66 5 = ((p + rl_ lt_ tp n (n - p) p : Nat) : Int)) (h6 : σ.1 66 6 = kz_ (wdv_ tp n p (rl_ lt_ tp n (n - p) p)) (rl_ lt_ tp n (n - p) p)) (h8 : σ.2.1 66 8 = bw_ tp n p (rl_ lt_ tp n (n - p) p)) : KX_ tp n p σ := by
  obtain ⟨r1, r2⟩ := rl_at lt_ tp n (by decide) (n - p) p (by omega)
  have h0 : ¬ hr_ tp n p < 0 := by unfold lt_ at hl; rw [decide_eq_true_eq] at hl; omega
  have el : tkl_ tp n p = rl_ lt_ tp n (n - p) p := by unfold tkl_; rw [if_neg h0, if_pos hl]
  have ew : tkw_ tp n p = wdv_ tp n p (rl_ lt_ tp n (n - p) p) := by unfold tkw_; rw [if_neg h0, if_pos hl, el]
  have es : tks_ tp n p = if 8 < rl_ lt_ tp n (n - p) p then 3 else 1 := by unfold tks_; rw [if_neg h0, if_pos hl, el]
  generalize rl_ lt_ tp n (n - p) p = Ln at *
  by_cases q : 8 < Ln
  · rw [if_pos q] at es
    refine ⟨h7, ?_, fun w => by rw [es] at w; exact absurd w (by decide), fun w => by rw [es] at w; exact absurd w (by decide), fun w => absurd es w⟩
    unfold kx_
    rw [es, if_neg (by decide), if_pos rfl, h6]
    exact if_pos q
  · rw [if_neg q] at es
    obtain ⟨b1, b2⟩ := bw_n5 (by omega) r1
    refine ⟨h7, ?_, fun _ => ⟨by rw [ew, h8]; exact b1, by rw [ew]; exact b2⟩, fun w => by rw [es] at w; exact absurd w (by decide), fun _ => ?_⟩
    · unfold kx_
      rw [es, if_neg (by decide), if_neg (by decide), if_neg (by decide), if_pos rfl, h6, ew]
      exact if_neg q
    · unfold tka_
      rw [if_neg (by rw [es]; decide), el]
      exact h5
theorem KX_.d {tp : Nat → Int} {n p : Nat} {σ : am_S} (hpn : p ≤ n) (hl : dt_ (hr_ tp n p) = true) (h7 : σ.1 66 7 = (p : Int)) (h5 : σ.1 66 5 = ((p + rl_ dt_ tp n (n - p) p : Nat) : Int)) (h6 : σ.1 66 6 = (if decide (4 < rl_ dt_ tp n (n - p) p) || lt_ (hr_ tp n (p + rl_ dt_ tp n (n - p) p)) then 103 else 101)) (h9 : σ.1 66 9 = nd8_ tp n p (rl_ dt_ tp n (n - p) p)) : KX_ tp n p σ := by
  obtain ⟨r1, r2⟩ := rl_at dt_ tp n (by decide) (n - p) p (by omega)
  have hd := hl
  unfold dt_ at hd
  rw [decide_eq_true_eq] at hd
  have h0 : ¬ hr_ tp n p < 0 := by omega
  have hlt : ¬ lt_ (hr_ tp n p) = true := by unfold lt_; rw [decide_eq_true_eq]; omega
  have el : tkl_ tp n p = rl_ dt_ tp n (n - p) p := by unfold tkl_; rw [if_neg h0, if_neg hlt, if_pos hl]
  have en : tkn_ tp n p = nv_ tp n p (rl_ dt_ tp n (n - p) p) := by unfold tkn_; rw [if_neg h0, if_neg hlt, if_pos hl, el]
  have es : tks_ tp n p = if decide (4 < rl_ dt_ tp n (n - p) p) || lt_ (hr_ tp n (p + rl_ dt_ tp n (n - p) p)) then 3 else 2 := by unfold tks_; rw [if_neg h0, if_neg hlt, if_pos hl, el]
  generalize rl_ dt_ tp n (n - p) p = Ln at *
  by_cases q : (decide (4 < Ln) || lt_ (hr_ tp n (p + Ln))) = true
  · rw [if_pos q] at es h6
    refine ⟨h7, ?_, fun w => by rw [es] at w; exact absurd w (by decide), fun w => by rw [es] at w; exact absurd w (by decide), fun w => absurd es w⟩
    unfold kx_
    rw [es, if_neg (by decide), if_pos rfl, h6]
  · rw [if_neg q] at es h6
    have h4 : Ln ≤ 4 := by
      by_cases w : 4 < Ln
      · exact absurd (by rw [decide_eq_true w]; rfl) q
      · omega
    refine ⟨h7, ?_, fun w => by rw [es] at w; exact absurd w (by decide), fun _ => by rw [en, h9]; exact (nx_nv Ln h4 r1).1, fun _ => ?_⟩
    · unfold kx_
      rw [es, if_neg (by decide), if_neg (by decide), if_pos rfl, h6]
    · unfold tka_
      rw [if_neg (by rw [es]; decide), el]
      exact h5
theorem KX_.s {tp : Nat → Int} {n p : Nat} {σ : am_S} (h0 : ¬ hr_ tp n p < 0) (hl : lt_ (hr_ tp n p) = false) (hd : dt_ (hr_ tp n p) = false) (h7 : σ.1 66 7 = (p : Int)) (h5 : σ.1 66 5 = ((p + 1 : Nat) : Int)) (h6 : σ.1 66 6 = if si_ (hr_ tp n p) then hr_ tp n p else 103) : KX_ tp n p σ := by
  have el : tkl_ tp n p = 1 := by unfold tkl_; rw [if_neg h0, if_neg (by rw [hl]; decide), if_neg (by rw [hd]; decide)]
  have es : tks_ tp n p = if si_ (hr_ tp n p) then hr_ tp n p else 3 := by unfold tks_; rw [if_neg h0, if_neg (by rw [hl]; decide), if_neg (by rw [hd]; decide)]
  by_cases q : si_ (hr_ tp n p) = true
  · rw [if_pos q] at es h6
    unfold si_ at q
    rw [decide_eq_true_eq] at q
    refine ⟨h7, ?_, fun w => by omega, fun w => by omega, fun _ => ?_⟩
    · unfold kx_
      rw [if_neg (by omega), if_neg (by omega), if_neg (by omega), if_neg (by omega), h6, es]
    · unfold tka_
      rw [if_neg (by omega), el]
      exact h5
  · rw [if_neg q] at es h6
    refine ⟨h7, ?_, fun w => by rw [es] at w; exact absurd w (by decide), fun w => by rw [es] at w; exact absurd w (by decide), fun w => absurd es w⟩
    unfold kx_
    rw [es, if_neg (by decide), if_pos rfl, h6]

