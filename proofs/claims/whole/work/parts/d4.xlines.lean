theorem xd_skill {t : Nat} (ht : t = 2 ∨ t = 34) {D : sp_T} {nS nO nR nP nU : Nat} (hV : DW_ D nS nO nR nP nU) {σ σz : am_S} (hX : XD_ t D σ) (hf : gx_ [t + 1] [t + 4] [0, 1, 5, 6, 7, 9] σ σz) (hm : nS < 4) {w : Int} (w1 : σz.1 (t + 1) = am_up (σ.1 (t + 1)) 1 ((nS + 1 : Nat) : Int)) (wN : NM_ (t + 4) (t + 1) 1 (am_up (D 137) (0 + nS) w) 0 (nS + 1) σz) : XD_ t (du_ (du_ D 137 (0 + nS) w) 135 43 ((nS + 1 : Nat) : Int)) σz := by
  have hO : (D 135 44).toNat = nO := by rw [hV.hO]; rfl
  have hS : (D 135 43).toNat = nS := by rw [hV.hS]; rfl
  have hR : (D 135 45).toNat = nR := by rw [hV.hR]; rfl
  have hP : (D 135 46).toNat = nP := by rw [hV.hP]; rfl
  have hS4 := hV.S4
  have hO8 := hV.O8
  have hR3 := hV.R3
  have hP6 := hV.P6
  generalize hD : du_ (du_ D 137 (0 + nS) w) 135 43 ((nS + 1 : Nat) : Int) = D'
  have d137 : D' 137 = am_up (D 137) (0 + nS) w := by rw [← hD]; rfl
  have d43 : D' 135 43 = ((nS + 1 : Nat) : Int) := by rw [← hD, du_s, am_up_same]
  have d135 : ∀ k, k ≠ 43 → D' 135 k = D 135 k := fun k hk => by rw [← hD, du_s, am_up_ne hk]; rfl
  have dr : ∀ c, 138 ≤ c → D' c = D c := fun c h1 => by rw [← hD, du_o (by omega), du_o (by omega)]
  clear hD
  have hS' : (D' 135 43).toNat = nS + 1 := by rw [d43]; rfl
  refine ⟨⟨?_, ?_, ?_, ?_⟩, ?_, ?_, ?_, ?_, ?_, ?_⟩
  · rw [hS', d137]
    exact wN
  · exact hX.1.2.1.cg (by rw [w1, am_up_ne (by decide)]) (hf.2.2.1 _ (by simp) (by omega)) (fun i hi => by rw [d137, am_up_ne (by omega)]) (by rw [d135 _ (by decide)])
  · exact hX.1.2.2.1.cg (by rw [w1, am_up_ne (by decide)]) (hf.2.2.1 _ (by simp) (by omega)) (fun i hi => by rw [d137, am_up_ne (by omega)]) (by rw [d135 _ (by decide)])
  · exact hX.1.2.2.2.cg (by rw [w1, am_up_ne (by decide)]) (hf.2.2.1 _ (by simp) (by omega)) (fun i hi => by rw [d137, am_up_ne (by omega)]) (by rw [d135 _ (by decide)])
  · exact hX.2.1.cg (fun a h1 h2 => hf.1 _ (by simp; omega) (by omega)) (fun a h1 h2 => dr _ (by omega)) (d135 _ (by decide))
  · exact hX.2.2.1.cg (fun r hr => hf.1 _ (by simp; omega) (by omega)) (dr _ (by decide)) (d135 _ (by decide))
  · exact hX.2.2.2.1.cg (by omega) (fun a h1 h2 => hf.1 _ (by simp; omega) (by omega)) (fun a h1 h2 => dr _ (by omega)) (d135 _ (by decide))
  · exact hX.2.2.2.2.1.cg (hf.1 _ (by simp) (by omega)) (by rw [w1, am_up_ne (by decide)]) (d135 _ (by decide)) (d135 _ (by decide)) (d135 _ (by decide))
  · exact hX.2.2.2.2.2.1.cg (fun a h1 h2 => hf.1 _ (by simp; omega) (by omega)) (d135 _ (by decide)) (d135 _ (by decide)) (d135 _ (by decide)) (dr _ (by decide)) (dr _ (by decide))
  · exact hX.2.2.2.2.2.2.cg (hf.2.1 _ (by decide)) (d135 _ (by decide)) (d135 _ (by decide)) (d135 _ (by decide))
theorem xd_par {t : Nat} (ht : t = 2 ∨ t = 34) {D : sp_T} {nS nO nR nP nU : Nat} (hV : DW_ D nS nO nR nP nU) {σ σz : am_S} (hX : XD_ t D σ) (hf : gx_ [t + 1] [t + 6] [0, 1, 5, 6, 7, 9] σ σz) (hm : nR < 3) {w : Int} (w1 : σz.1 (t + 1) = am_up (σ.1 (t + 1)) 3 ((nR + 1 : Nat) : Int)) (wN : NM_ (t + 6) (t + 1) 3 (am_up (D 137) (12 + nR) w) 12 (nR + 1) σz) : XD_ t (du_ (am_up (du_ D 137 (12 + nR) w) 157 (cd_ (fun _ => 0) (D 157) (8 * nR) 8)) 135 45 ((nR + 1 : Nat) : Int)) σz := by
  have hO : (D 135 44).toNat = nO := by rw [hV.hO]; rfl
  have hS : (D 135 43).toNat = nS := by rw [hV.hS]; rfl
  have hR : (D 135 45).toNat = nR := by rw [hV.hR]; rfl
  have hP : (D 135 46).toNat = nP := by rw [hV.hP]; rfl
  have hS4 := hV.S4
  have hO8 := hV.O8
  have hR3 := hV.R3
  have hP6 := hV.P6
  generalize hD : du_ (am_up (du_ D 137 (12 + nR) w) 157 (cd_ (fun _ => 0) (D 157) (8 * nR) 8)) 135 45 ((nR + 1 : Nat) : Int) = D'
  have d137 : D' 137 = am_up (D 137) (12 + nR) w := by rw [← hD]; rfl
  have d157 : D' 157 = cd_ (fun _ => 0) (D 157) (8 * nR) 8 := by rw [← hD]; rfl
  have d45 : D' 135 45 = ((nR + 1 : Nat) : Int) := by rw [← hD, du_s, am_up_same]
  have d135 : ∀ k, k ≠ 45 → D' 135 k = D 135 k := fun k hk => by rw [← hD, du_s, am_up_ne hk]; rfl
  have dr : ∀ c, 138 ≤ c → c ≠ 157 → D' c = D c := fun c h1 h2 => by rw [← hD, du_o (by omega), am_up_ne h2, du_o (by omega)]
  clear hD
  have hR' : (D' 135 45).toNat = nR + 1 := by rw [d45]; rfl
  refine ⟨⟨?_, ?_, ?_, ?_⟩, ?_, ?_, ?_, ?_, ?_, ?_⟩
  · exact hX.1.1.cg (by rw [w1, am_up_ne (by decide)]) (hf.2.2.1 _ (by simp) (by omega)) (fun i hi => by rw [d137, am_up_ne (by omega)]) (by rw [d135 _ (by decide)])
  · exact hX.1.2.1.cg (by rw [w1, am_up_ne (by decide)]) (hf.2.2.1 _ (by simp) (by omega)) (fun i hi => by rw [d137, am_up_ne (by omega)]) (by rw [d135 _ (by decide)])
  · rw [hR', d137]
    exact wN
  · exact hX.1.2.2.2.cg (by rw [w1, am_up_ne (by decide)]) (hf.2.2.1 _ (by simp) (by omega)) (fun i hi => by rw [d137, am_up_ne (by omega)]) (by rw [d135 _ (by decide)])
  · exact hX.2.1.cg (fun a h1 h2 => hf.1 _ (by simp; omega) (by omega)) (fun a h1 h2 => dr _ (by omega) (by omega)) (d135 _ (by decide))
  · intro r o hr ho
    have h0 := hX.2.2.1 r o hr ho
    rw [hR] at h0
    rw [hR', hf.1 (t + 16 + r) (by simp; omega) (by omega), h0, d157]
    by_cases e : r < nR
    · rw [if_pos e, if_pos (by omega), cd_out (by omega)]
    · rw [if_neg e]
      by_cases e2 : r = nR
      · rw [if_pos (by omega), e2, cd_in ho]
      · rw [if_neg (by omega)]
  · exact hX.2.2.2.1.cg (by omega) (fun a h1 h2 => hf.1 _ (by simp; omega) (by omega)) (fun a h1 h2 => dr _ (by omega) (by omega)) (d135 _ (by decide))
  · exact hX.2.2.2.2.1.cg (hf.1 _ (by simp) (by omega)) (by rw [w1, am_up_ne (by decide)]) (d135 _ (by decide)) (d135 _ (by decide)) (d135 _ (by decide))
  · exact hX.2.2.2.2.2.1.cg (fun a h1 h2 => hf.1 _ (by simp; omega) (by omega)) (d135 _ (by decide)) (d135 _ (by decide)) (d135 _ (by decide)) (dr _ (by decide) (by decide)) (dr _ (by decide) (by decide))
  · exact hX.2.2.2.2.2.2.cg (hf.2.1 _ (by decide)) (d135 _ (by decide)) (d135 _ (by decide)) (d135 _ (by decide))
theorem xd_odd {t : Nat} (ht : t = 2 ∨ t = 34) {D : sp_T} {nS nO nR nP nU : Nat} (hV : DW_ D nS nO nR nP nU) {σ σz : am_S} (hX : XD_ t D σ) (hf : gx_ [t + 16, t + 17, t + 18] [] [0, 1, 5, 6, 7, 9] σ σz) {r o : Nat} {v : Int} (hr : r < nR) (ho : o < nO) (wv : σz.1 (t + 16 + r) = am_up (σ.1 (t + 16 + r)) o v) (wo : ∀ q, q < 3 → q ≠ r → σz.1 (t + 16 + q) = σ.1 (t + 16 + q)) : XD_ t (du_ D 157 (8 * r + o) v) σz := by
  have hO : (D 135 44).toNat = nO := by rw [hV.hO]; rfl
  have hS : (D 135 43).toNat = nS := by rw [hV.hS]; rfl
  have hR : (D 135 45).toNat = nR := by rw [hV.hR]; rfl
  have hP : (D 135 46).toNat = nP := by rw [hV.hP]; rfl
  have hS4 := hV.S4
  have hO8 := hV.O8
  have hR3 := hV.R3
  have hP6 := hV.P6
  generalize hD : du_ D 157 (8 * r + o) v = D'
  have d157 : D' 157 = am_up (D 157) (8 * r + o) v := by rw [← hD]; rfl
  have dr : ∀ c, c ≠ 157 → D' c = D c := fun c h1 => by rw [← hD, du_o h1]
  clear hD
  refine ⟨?_, ?_, ?_, ?_, ?_, ?_, ?_⟩
  · exact hX.1.cg (fun s hs => by rw [hf.1 (t + 1) (by simp) (by omega)]) (fun c h1 h2 => hf.2.2.1 _ (by simp) (by omega)) (dr _ (by decide)) (by rw [dr _ (by decide)]) (by rw [dr _ (by decide)]) (by rw [dr _ (by decide)]) (by rw [dr _ (by decide)])
  · exact hX.2.1.cg (fun a h1 h2 => hf.1 _ (by simp; omega) (by omega)) (fun a h1 h2 => dr _ (by omega)) (by rw [dr _ (by decide)])
  · intro q i hq hi
    have h0 := hX.2.2.1 q i hq hi
    rw [hR] at h0
    rw [dr 135 (by decide), hR, d157]
    by_cases e : q = r
    · rw [e, wv, if_pos hr]
      by_cases e2 : i = o
      · rw [e2, am_up_same, am_up_same]
      · rw [am_up_ne e2, am_up_ne (by omega)]
        rw [e, if_pos hr] at h0
        exact h0
    · rw [wo q hq e, h0]
      by_cases e3 : q < nR
      · rw [if_pos e3, if_pos e3, am_up_ne (by omega)]
      · rw [if_neg e3, if_neg e3]
  · exact hX.2.2.2.1.cg (by omega) (fun a h1 h2 => hf.1 _ (by simp; omega) (by omega)) (fun a h1 h2 => dr _ (by omega)) (by rw [dr _ (by decide)])
  · exact hX.2.2.2.2.1.cg (hf.1 _ (by simp) (by omega)) (by rw [hf.1 (t + 1) (by simp) (by omega)]) (by rw [dr _ (by decide)]) (by rw [dr _ (by decide)]) (by rw [dr _ (by decide)])
  · exact hX.2.2.2.2.2.1.cg (fun a h1 h2 => hf.1 _ (by simp; omega) (by omega)) (by rw [dr _ (by decide)]) (by rw [dr _ (by decide)]) (by rw [dr _ (by decide)]) (dr _ (by decide)) (dr _ (by decide))
  · exact hX.2.2.2.2.2.2.cg (hf.2.1 _ (by decide)) (by rw [dr _ (by decide)]) (by rw [dr _ (by decide)]) (by rw [dr _ (by decide)])

theorem xd_open {t : Nat} (ht : t = 2 ∨ t = 34) {D : sp_T} {nS nO nR nP nU : Nat} (hV : DW_ D nS nO nR nP nU) {σ σz : am_S} (hX : XD_ t D σ) (hf : gx_ [t] [] [0, 1, 5, 6, 7, 9, 11] σ σz) {v : Int} {o : Nat} (ho9 : o < 2 ^ 21) (o12 : o.testBit 12 = decide (D 135 57 = 1)) (o13 : o.testBit 13 = decide (D 135 58 = 1)) (o14 : o.testBit 14 = decide (D 135 59 = 1)) (hz : σz.1 66 11 = ((o ||| 2 ^ 13 : Nat) : Int)) (wt : σz.1 t = am_up (σ.1 t) 10 v) : XD_ t (du_ (du_ D 135 58 1) 135 48 v) σz := by
  have hO : (D 135 44).toNat = nO := by rw [hV.hO]; rfl
  have hS : (D 135 43).toNat = nS := by rw [hV.hS]; rfl
  have hR : (D 135 45).toNat = nR := by rw [hV.hR]; rfl
  have hP : (D 135 46).toNat = nP := by rw [hV.hP]; rfl
  have hS4 := hV.S4
  have hO8 := hV.O8
  have hR3 := hV.R3
  have hP6 := hV.P6
  generalize hD : du_ (du_ D 135 58 1) 135 48 v = D'
  have d48 : D' 135 48 = v := by rw [← hD, du_s, am_up_same]
  have d58 : D' 135 58 = 1 := by rw [← hD, du_s, am_up_ne (by decide), du_s, am_up_same]
  have d135 : ∀ k, k ≠ 58 → k ≠ 48 → D' 135 k = D 135 k := fun k h1 h2 => by rw [← hD, du_s, am_up_ne h2, du_s, am_up_ne h1]
  have dr : ∀ c, c ≠ 135 → D' c = D c := fun c h1 => by rw [← hD, du_o h1, du_o h1]
  clear hD
  refine ⟨?_, ?_, ?_, ?_, ?_, ?_, ?_⟩
  · exact hX.1.cg (fun s hs => by rw [hf.1 (t + 1) (by simp) (by omega)]) (fun c h1 h2 => hf.2.2.1 _ (by simp) (by omega)) (dr _ (by decide)) (d135 _ (by decide) (by decide)) (d135 _ (by decide) (by decide)) (d135 _ (by decide) (by decide)) (d135 _ (by decide) (by decide))
  · exact hX.2.1.cg (fun a h1 h2 => hf.1 _ (by simp; omega) (by omega)) (fun a h1 h2 => dr _ (by omega)) (d135 _ (by decide) (by decide))
  · exact hX.2.2.1.cg (fun r hr => hf.1 _ (by simp; omega) (by omega)) (dr _ (by decide)) (d135 _ (by decide) (by decide))
  · exact hX.2.2.2.1.cg (by omega) (fun a h1 h2 => hf.1 _ (by simp; omega) (by omega)) (fun a h1 h2 => dr _ (by omega)) (d135 _ (by decide) (by decide))
  · have hx := hX.2.2.2.2.1
    unfold XDX_ at hx ⊢
    rw [wt, hf.1 (t + 1) (by simp) (by omega), d48, d135 49 (by decide) (by decide), d135 47 (by decide) (by decide), am_up_same, am_up_ne (by decide)]
    exact ⟨rfl, hx.2.1, hx.2.2⟩
  · exact hX.2.2.2.2.2.1.cg (fun a h1 h2 => hf.1 _ (by simp; omega) (by omega)) (d135 _ (by decide) (by decide)) (d135 _ (by decide) (by decide)) (d135 _ (by decide) (by decide)) (dr _ (by decide)) (dr _ (by decide))
  · exact ⟨o ||| 2 ^ 13, hz, Nat.or_lt_two_pow ho9 (by decide), by rw [Nat.testBit_or, Nat.testBit_two_pow, o12, d135 57 (by decide) (by decide)]; simp, by rw [Nat.testBit_or, Nat.testBit_two_pow, d58]; simp, by rw [Nat.testBit_or, Nat.testBit_two_pow, o14, d135 59 (by decide) (by decide)]; simp⟩

theorem xd_draw {t : Nat} (ht : t = 2 ∨ t = 34) {D : sp_T} {nS nO nR nP nU : Nat} (hV : DW_ D nS nO nR nP nU) {σ σz : am_S} (hX : XD_ t D σ) (hf : gx_ [t] [] [0, 1, 5, 6, 7, 9, 11] σ σz) {v : Int} {o : Nat} (ho9 : o < 2 ^ 21) (o12 : o.testBit 12 = decide (D 135 57 = 1)) (o13 : o.testBit 13 = decide (D 135 58 = 1)) (o14 : o.testBit 14 = decide (D 135 59 = 1)) (hz : σz.1 66 11 = ((o ||| 2 ^ 14 : Nat) : Int)) (wt : σz.1 t = am_up (σ.1 t) 11 v) : XD_ t (du_ (du_ D 135 59 1) 135 49 v) σz := by
  have hO : (D 135 44).toNat = nO := by rw [hV.hO]; rfl
  have hS : (D 135 43).toNat = nS := by rw [hV.hS]; rfl
  have hR : (D 135 45).toNat = nR := by rw [hV.hR]; rfl
  have hP : (D 135 46).toNat = nP := by rw [hV.hP]; rfl
  have hS4 := hV.S4
  have hO8 := hV.O8
  have hR3 := hV.R3
  have hP6 := hV.P6
  generalize hD : du_ (du_ D 135 59 1) 135 49 v = D'
  have d49 : D' 135 49 = v := by rw [← hD, du_s, am_up_same]
  have d59 : D' 135 59 = 1 := by rw [← hD, du_s, am_up_ne (by decide), du_s, am_up_same]
  have d135 : ∀ k, k ≠ 59 → k ≠ 49 → D' 135 k = D 135 k := fun k h1 h2 => by rw [← hD, du_s, am_up_ne h2, du_s, am_up_ne h1]
  have dr : ∀ c, c ≠ 135 → D' c = D c := fun c h1 => by rw [← hD, du_o h1, du_o h1]
  clear hD
  refine ⟨?_, ?_, ?_, ?_, ?_, ?_, ?_⟩
  · exact hX.1.cg (fun s hs => by rw [hf.1 (t + 1) (by simp) (by omega)]) (fun c h1 h2 => hf.2.2.1 _ (by simp) (by omega)) (dr _ (by decide)) (d135 _ (by decide) (by decide)) (d135 _ (by decide) (by decide)) (d135 _ (by decide) (by decide)) (d135 _ (by decide) (by decide))
  · exact hX.2.1.cg (fun a h1 h2 => hf.1 _ (by simp; omega) (by omega)) (fun a h1 h2 => dr _ (by omega)) (d135 _ (by decide) (by decide))
  · exact hX.2.2.1.cg (fun r hr => hf.1 _ (by simp; omega) (by omega)) (dr _ (by decide)) (d135 _ (by decide) (by decide))
  · exact hX.2.2.2.1.cg (by omega) (fun a h1 h2 => hf.1 _ (by simp; omega) (by omega)) (fun a h1 h2 => dr _ (by omega)) (d135 _ (by decide) (by decide))
  · have hx := hX.2.2.2.2.1
    unfold XDX_ at hx ⊢
    rw [wt, hf.1 (t + 1) (by simp) (by omega), d49, d135 48 (by decide) (by decide), d135 47 (by decide) (by decide), am_up_same, am_up_ne (by decide)]
    exact ⟨hx.1, rfl, hx.2.2⟩
  · exact hX.2.2.2.2.2.1.cg (fun a h1 h2 => hf.1 _ (by simp; omega) (by omega)) (d135 _ (by decide) (by decide)) (d135 _ (by decide) (by decide)) (d135 _ (by decide) (by decide)) (dr _ (by decide)) (dr _ (by decide))
  · exact ⟨o ||| 2 ^ 14, hz, Nat.or_lt_two_pow ho9 (by decide), by rw [Nat.testBit_or, Nat.testBit_two_pow, o12, d135 57 (by decide) (by decide)]; simp, by rw [Nat.testBit_or, Nat.testBit_two_pow, o13, d135 58 (by decide) (by decide)]; simp, by rw [Nat.testBit_or, Nat.testBit_two_pow, d59]; simp⟩

theorem x_openL {d : Nat} (hd : 5 ≤ d) {σ : am_S} {tp : Nat → Int} {n t p : Nat} (hC : RC_ tp n t p σ) (hki : kx_ tp n p = ((13 : Nat) : Int)) {D : sp_T} {nS nO nR nP nU : Nat} (hV : DW_ D nS nO nR nP nU) (hX : XD_ t D σ) {Q : Option am_V → am_S → Prop} (hF : D 135 58 = 1 → ∀ σ', gl_ t σ σ' → FX_ tp n (2, p) σ' → Q (some (am_I 0)) σ') (hQ : ¬ D 135 58 = 1 → LX_ tp n t (sb_ (sb_ (num_ tp n 1 60 (nxp_ tp n p)) fun r => Sum.inr (du_ (du_ D 135 58 1) 135 48 r.1, r.2)) (eol_ tp n)) σ Q) : am_Ev d 49 [am_R 66] σ Q := by
  obtain ⟨d, rfl⟩ : ∃ e, d = e + 1 := ⟨d - 1, by omega⟩
  have ht := hC.ht
  obtain ⟨o, ho, ho9, o12, o13, o14⟩ := hX.2.2.2.2.2.2
  refine ev_in (m := 49) (c := k_X4_readsOpen) (L := [some (am_R 66), none]) rfl rfl rfl rfl rfl rfl ?_
  refine ax_load (q := 1) rfl rfl rfl rfl rfl ?_
  refine ax_callv (q := 4) rfl rfl rfl rfl rfl rfl ?_
  refine x_takesOnce (by omega) hC (by decide) hki ho ho9 (fun hb σ1 hg_σ1 gJ g0 => ?_) (fun hb σ2 hg_σ2 h11 hC2 => ?_)
  · have hf_σ1 : gx_ [t] [] [0, 1, 5, 6, 7, 9, 11] σ σ1 := gx_tr2 (gx_rf _ _ _ σ) (gx_su hg_σ1 (by intro x hx; simp at hx ⊢ <;> omega) (by intro x hx; simp at hx ⊢ <;> omega) (by intro x hx; simp at hx ⊢ <;> omega))
    refine ax_if_ne (q := 7) (x := 9) rfl rfl (fun h => absurd h (by omega)) (fun h4 => ?_)
    refine ax_const (q := 8) (v := am_I 0) rfl rfl rfl ?_
    refine ax_ret (r := some (am_I 0)) rfl ⟨rfl, Or.inl rfl⟩ ?_
    exact hF (by rw [o13] at hb; exact of_decide_eq_true hb) _ (gl_gx hf_σ1 (by intro x hx; simp at hx; omega) (by intro x hx; simp at hx) (by intro x hx; simp at hx ⊢; omega)) g0
  · have hf_σ2 : gx_ [t] [] [0, 1, 5, 6, 7, 9, 11] σ σ2 := gx_tr2 (gx_rf _ _ _ σ) (gx_su hg_σ2 (by intro x hx; simp at hx ⊢ <;> omega) (by intro x hx; simp at hx ⊢ <;> omega) (by intro x hx; simp at hx ⊢ <;> omega))
    replace hQ := hQ (by rw [o13] at hb; exact of_decide_eq_false hb)
    refine ax_if_ne (q := 7) (x := 9) rfl rfl (fun h4 => ?_) (fun h => absurd h (by omega))
    refine ax_load (q := 10) rfl rfl rfl rfl rfl ?_
    refine ax_const (q := 11) (v := am_I 1) rfl rfl rfl ?_
    refine ax_const (q := 13) (v := am_I 60) rfl rfl rfl ?_
    refine ax_callv (q := 16) rfl rfl rfl rfl rfl rfl ?_
    refine x_num (by omega) hC2 (fun e he σe hg_σe g0 => ?_) (fun b he hb1 hb2 hs2 => ?_)
    · rw [he] at hQ
      simp only [sbr_, sbl_] at hQ
      have hf_σe : gx_ [t] [] [0, 1, 5, 6, 7, 9, 11] σ σe := gx_tr2 hf_σ2 (gx_su hg_σe (by intro x hx; simp at hx ⊢ <;> omega) (by intro x hx; simp at hx ⊢ <;> omega) (by intro x hx; simp at hx ⊢ <;> omega))
      refine ax_store (q := 17) (L' := [some (am_R 66), some (am_I (-1))]) rfl rfl rfl rfl rfl rfl ?_
      refine ax_load (q := 18) rfl rfl rfl rfl rfl ?_
      refine ax_const (q := 19) (v := am_I (-1)) rfl rfl rfl ?_
      refine ax_icmp_ne (q := 22) (x := 24) rfl rfl (fun h => absurd rfl h) (fun h19 => ?_)
      refine ax_const (q := 23) (v := am_I 0) rfl rfl rfl ?_
      refine ax_ret (r := some (am_I 0)) rfl ⟨rfl, Or.inl rfl⟩ ?_
      exact hQ.1 _ rfl _ (gl_gx hf_σe (by intro x hx; simp at hx; omega) (by intro x hx; simp at hx) (by intro x hx; simp at hx ⊢; omega)) g0
    · rw [he] at hQ
      simp only [sbr_, sbl_] at hQ
      refine ax_store (q := 17) (L' := [some (am_R 66), some (am_I b)]) rfl rfl rfl rfl rfl rfl ?_
      refine ax_load (q := 18) rfl rfl rfl rfl rfl ?_
      refine ax_const (q := 19) (v := am_I (-1)) rfl rfl rfl ?_
      refine ax_icmp_ne (q := 22) (x := 24) rfl rfl (fun h19 => ?_) (fun h => absurd h (by omega))
      refine ax_load (q := 25) rfl rfl rfl rfl rfl ?_
      refine ax_getf (q := 28) (v := am_R t) rfl rfl (am_fgR rfl hC2.tn) ?_
      refine ax_load (q := 29) rfl rfl rfl rfl rfl ?_
      refine ax_putf (q := 32) rfl rfl (xp7_10 hC.ht) ?_
      refine ax_load (q := 33) rfl rfl rfl rfl rfl ?_
      refine ax_callv (q := 36) rfl rfl rfl rfl rfl rfl ?_
      obtain ⟨σ5, e5⟩ : ∃ u, u = (am_sI σ2 t (am_up (σ2.1 t) 10 b)) := ⟨_, rfl⟩
      show am_Ev _ _ _ (am_sI σ2 t (am_up (σ2.1 t) 10 b)) _
      rw [← e5]
      have hg_σ5 : gx_ [t] [] [] σ2 σ5 := by rw [e5]; exact gx_A (gx_rf _ _ _ _) (by simp) (by omega)
      have hf_σ5 : gx_ [t] [] [0, 1, 5, 6, 7, 9, 11] σ σ5 := gx_tr2 hf_σ2 (gx_su hg_σ5 (by intro x hx; simp at hx ⊢ <;> omega) (by intro x hx; simp at hx ⊢ <;> omega) (by intro x hx; simp at hx ⊢ <;> omega))
      have hC5 := hC2.fr hg_σ5 (by simp <;> omega) (by simp) (by simp) (by rw [e5]; rfl)
      have v5 : σ5.1 t = am_up (σ.1 t) 10 b := by rw [e5, sI_at, hg_σ2.1 _ (by simp) (by omega)]
      refine x_nextT (by omega) hC5 (fun e => by rw [hs2] at e; exact absurd e (by decide)) (fun σ6 hg_σ6 hC6 => ?_)
      have hf_σ6 : gx_ [t] [] [0, 1, 5, 6, 7, 9, 11] σ σ6 := gx_tr2 hf_σ5 (gx_su hg_σ6 (by intro x hx; simp at hx ⊢ <;> omega) (by intro x hx; simp at hx ⊢ <;> omega) (by intro x hx; simp at hx ⊢ <;> omega))
      refine ax_load (q := 37) rfl rfl rfl rfl rfl ?_
      refine ax_const (q := 39) (v := am_I 59) rfl rfl rfl ?_
      refine ax_callv (q := 42) rfl rfl rfl rfl rfl rfl ?_
      refine x_semi (by omega) hC6 (fun he σs hg_σs g0 => ?_) (fun he σz hg_σz hCz => ?_)
      · rw [eol_n he] at hQ
        have hf_σs : gx_ [t] [] [0, 1, 5, 6, 7, 9, 11] σ σs := gx_tr2 hf_σ6 (gx_su hg_σs (by intro x hx; simp at hx ⊢ <;> omega) (by intro x hx; simp at hx ⊢ <;> omega) (by intro x hx; simp at hx ⊢ <;> omega))
        refine ax_ret (r := some (am_I 0)) rfl ⟨rfl, Or.inl rfl⟩ ?_
        exact hQ.1 _ rfl _ (gl_gx hf_σs (by intro x hx; simp at hx; omega) (by intro x hx; simp at hx) (by intro x hx; simp at hx ⊢; omega)) g0
      · rw [eol_y he] at hQ
        have hf_σz : gx_ [t] [] [0, 1, 5, 6, 7, 9, 11] σ σz := gx_tr2 hf_σ6 (gx_su hg_σz (by intro x hx; simp at hx ⊢ <;> omega) (by intro x hx; simp at hx ⊢ <;> omega) (by intro x hx; simp at hx ⊢ <;> omega))
        refine ax_ret (r := some (am_I 1)) rfl ⟨rfl, Or.inr rfl⟩ ?_
        exact hQ.2 _ _ rfl _ (gl_gx hf_σz (by intro x hx; simp at hx; omega) (by intro x hx; simp at hx) (by intro x hx; simp at hx ⊢; omega)) hCz (xd_open ht hV hX hf_σz ho9 o12 o13 o14 (by rw [hg_σz.2.1 11 (by simp), hg_σ6.2.1 11 (by simp), hg_σ5.2.1 11 (by simp)]; exact h11) (by rw [hg_σz.1 _ (by simp) (by omega), hg_σ6.1 _ (by simp) (by omega)]; exact v5))

theorem x_drawL {d : Nat} (hd : 5 ≤ d) {σ : am_S} {tp : Nat → Int} {n t p : Nat} (hC : RC_ tp n t p σ) (hki : kx_ tp n p = ((14 : Nat) : Int)) {D : sp_T} {nS nO nR nP nU : Nat} (hV : DW_ D nS nO nR nP nU) (hX : XD_ t D σ) {Q : Option am_V → am_S → Prop} (hF : D 135 59 = 1 → ∀ σ', gl_ t σ σ' → FX_ tp n (2, p) σ' → Q (some (am_I 0)) σ') (hQ : ¬ D 135 59 = 1 → LX_ tp n t (sb_ (sb_ (num_ tp n 0 999 (nxp_ tp n p)) fun r => Sum.inr (du_ (du_ D 135 59 1) 135 49 r.1, r.2)) (eol_ tp n)) σ Q) : am_Ev d 50 [am_R 66] σ Q := by
  obtain ⟨d, rfl⟩ : ∃ e, d = e + 1 := ⟨d - 1, by omega⟩
  have ht := hC.ht
  obtain ⟨o, ho, ho9, o12, o13, o14⟩ := hX.2.2.2.2.2.2
  refine ev_in (m := 50) (c := k_X4_readsDraw) (L := [some (am_R 66), none]) rfl rfl rfl rfl rfl rfl ?_
  refine ax_load (q := 1) rfl rfl rfl rfl rfl ?_
  refine ax_callv (q := 4) rfl rfl rfl rfl rfl rfl ?_
  refine x_takesOnce (by omega) hC (by decide) hki ho ho9 (fun hb σ1 hg_σ1 gJ g0 => ?_) (fun hb σ2 hg_σ2 h11 hC2 => ?_)
  · have hf_σ1 : gx_ [t] [] [0, 1, 5, 6, 7, 9, 11] σ σ1 := gx_tr2 (gx_rf _ _ _ σ) (gx_su hg_σ1 (by intro x hx; simp at hx ⊢ <;> omega) (by intro x hx; simp at hx ⊢ <;> omega) (by intro x hx; simp at hx ⊢ <;> omega))
    refine ax_if_ne (q := 7) (x := 9) rfl rfl (fun h => absurd h (by omega)) (fun h4 => ?_)
    refine ax_const (q := 8) (v := am_I 0) rfl rfl rfl ?_
    refine ax_ret (r := some (am_I 0)) rfl ⟨rfl, Or.inl rfl⟩ ?_
    exact hF (by rw [o14] at hb; exact of_decide_eq_true hb) _ (gl_gx hf_σ1 (by intro x hx; simp at hx; omega) (by intro x hx; simp at hx) (by intro x hx; simp at hx ⊢; omega)) g0
  · have hf_σ2 : gx_ [t] [] [0, 1, 5, 6, 7, 9, 11] σ σ2 := gx_tr2 (gx_rf _ _ _ σ) (gx_su hg_σ2 (by intro x hx; simp at hx ⊢ <;> omega) (by intro x hx; simp at hx ⊢ <;> omega) (by intro x hx; simp at hx ⊢ <;> omega))
    replace hQ := hQ (by rw [o14] at hb; exact of_decide_eq_false hb)
    refine ax_if_ne (q := 7) (x := 9) rfl rfl (fun h4 => ?_) (fun h => absurd h (by omega))
    refine ax_load (q := 10) rfl rfl rfl rfl rfl ?_
    refine ax_const (q := 11) (v := am_I 0) rfl rfl rfl ?_
    refine ax_const (q := 14) (v := am_I 999) rfl rfl rfl ?_
    refine ax_callv (q := 17) rfl rfl rfl rfl rfl rfl ?_
    refine x_num (by omega) hC2 (fun e he σe hg_σe g0 => ?_) (fun b he hb1 hb2 hs2 => ?_)
    · rw [he] at hQ
      simp only [sbr_, sbl_] at hQ
      have hf_σe : gx_ [t] [] [0, 1, 5, 6, 7, 9, 11] σ σe := gx_tr2 hf_σ2 (gx_su hg_σe (by intro x hx; simp at hx ⊢ <;> omega) (by intro x hx; simp at hx ⊢ <;> omega) (by intro x hx; simp at hx ⊢ <;> omega))
      refine ax_store (q := 18) (L' := [some (am_R 66), some (am_I (-1))]) rfl rfl rfl rfl rfl rfl ?_
      refine ax_load (q := 19) rfl rfl rfl rfl rfl ?_
      refine ax_const (q := 20) (v := am_I (-1)) rfl rfl rfl ?_
      refine ax_icmp_ne (q := 23) (x := 25) rfl rfl (fun h => absurd rfl h) (fun h20 => ?_)
      refine ax_const (q := 24) (v := am_I 0) rfl rfl rfl ?_
      refine ax_ret (r := some (am_I 0)) rfl ⟨rfl, Or.inl rfl⟩ ?_
      exact hQ.1 _ rfl _ (gl_gx hf_σe (by intro x hx; simp at hx; omega) (by intro x hx; simp at hx) (by intro x hx; simp at hx ⊢; omega)) g0
    · rw [he] at hQ
      simp only [sbr_, sbl_] at hQ
      refine ax_store (q := 18) (L' := [some (am_R 66), some (am_I b)]) rfl rfl rfl rfl rfl rfl ?_
      refine ax_load (q := 19) rfl rfl rfl rfl rfl ?_
      refine ax_const (q := 20) (v := am_I (-1)) rfl rfl rfl ?_
      refine ax_icmp_ne (q := 23) (x := 25) rfl rfl (fun h20 => ?_) (fun h => absurd h (by omega))
      refine ax_load (q := 26) rfl rfl rfl rfl rfl ?_
      refine ax_getf (q := 29) (v := am_R t) rfl rfl (am_fgR rfl hC2.tn) ?_
      refine ax_load (q := 30) rfl rfl rfl rfl rfl ?_
      refine ax_putf (q := 33) rfl rfl (xp7_11 hC.ht) ?_
      refine ax_load (q := 34) rfl rfl rfl rfl rfl ?_
      refine ax_callv (q := 37) rfl rfl rfl rfl rfl rfl ?_
      obtain ⟨σ5, e5⟩ : ∃ u, u = (am_sI σ2 t (am_up (σ2.1 t) 11 b)) := ⟨_, rfl⟩
      show am_Ev _ _ _ (am_sI σ2 t (am_up (σ2.1 t) 11 b)) _
      rw [← e5]
      have hg_σ5 : gx_ [t] [] [] σ2 σ5 := by rw [e5]; exact gx_A (gx_rf _ _ _ _) (by simp) (by omega)
      have hf_σ5 : gx_ [t] [] [0, 1, 5, 6, 7, 9, 11] σ σ5 := gx_tr2 hf_σ2 (gx_su hg_σ5 (by intro x hx; simp at hx ⊢ <;> omega) (by intro x hx; simp at hx ⊢ <;> omega) (by intro x hx; simp at hx ⊢ <;> omega))
      have hC5 := hC2.fr hg_σ5 (by simp <;> omega) (by simp) (by simp) (by rw [e5]; rfl)
      have v5 : σ5.1 t = am_up (σ.1 t) 11 b := by rw [e5, sI_at, hg_σ2.1 _ (by simp) (by omega)]
      refine x_nextT (by omega) hC5 (fun e => by rw [hs2] at e; exact absurd e (by decide)) (fun σ6 hg_σ6 hC6 => ?_)
      have hf_σ6 : gx_ [t] [] [0, 1, 5, 6, 7, 9, 11] σ σ6 := gx_tr2 hf_σ5 (gx_su hg_σ6 (by intro x hx; simp at hx ⊢ <;> omega) (by intro x hx; simp at hx ⊢ <;> omega) (by intro x hx; simp at hx ⊢ <;> omega))
      refine ax_load (q := 38) rfl rfl rfl rfl rfl ?_
      refine ax_const (q := 40) (v := am_I 59) rfl rfl rfl ?_
      refine ax_callv (q := 43) rfl rfl rfl rfl rfl rfl ?_
      refine x_semi (by omega) hC6 (fun he σs hg_σs g0 => ?_) (fun he σz hg_σz hCz => ?_)
      · rw [eol_n he] at hQ
        have hf_σs : gx_ [t] [] [0, 1, 5, 6, 7, 9, 11] σ σs := gx_tr2 hf_σ6 (gx_su hg_σs (by intro x hx; simp at hx ⊢ <;> omega) (by intro x hx; simp at hx ⊢ <;> omega) (by intro x hx; simp at hx ⊢ <;> omega))
        refine ax_ret (r := some (am_I 0)) rfl ⟨rfl, Or.inl rfl⟩ ?_
        exact hQ.1 _ rfl _ (gl_gx hf_σs (by intro x hx; simp at hx; omega) (by intro x hx; simp at hx) (by intro x hx; simp at hx ⊢; omega)) g0
      · rw [eol_y he] at hQ
        have hf_σz : gx_ [t] [] [0, 1, 5, 6, 7, 9, 11] σ σz := gx_tr2 hf_σ6 (gx_su hg_σz (by intro x hx; simp at hx ⊢ <;> omega) (by intro x hx; simp at hx ⊢ <;> omega) (by intro x hx; simp at hx ⊢ <;> omega))
        refine ax_ret (r := some (am_I 1)) rfl ⟨rfl, Or.inr rfl⟩ ?_
        exact hQ.2 _ _ rfl _ (gl_gx hf_σz (by intro x hx; simp at hx; omega) (by intro x hx; simp at hx) (by intro x hx; simp at hx ⊢; omega)) hCz (xd_draw ht hV hX hf_σz ho9 o12 o13 o14 (by rw [hg_σz.2.1 11 (by simp), hg_σ6.2.1 11 (by simp), hg_σ5.2.1 11 (by simp)]; exact h11) (by rw [hg_σz.1 _ (by simp) (by omega), hg_σ6.1 _ (by simp) (by omega)]; exact v5))

theorem x_oddsL {d : Nat} (hd : 6 ≤ d) {σ : am_S} {tp : Nat → Int} {n t p : Nat} (hC : RC_ tp n t p σ) (h3 : tks_ tp n p ≠ 3) {D : sp_T} {nS nO nR nP nU : Nat} (hV : DW_ D nS nO nR nP nU) (hX : XD_ t D σ) {Q : Option am_V → am_S → Prop} (hQ : LX_ tp n t (sb_ (sb_ (odd_ tp n (D 137) (D 157) nR nO p).1 fun r => Sum.inr (du_ D 157 (odd_ tp n (D 137) (D 157) nR nO p).2 r.1, r.2)) (eol_ tp n)) σ Q) : am_Ev d 45 [am_R 66] σ Q := by
  obtain ⟨d, rfl⟩ : ∃ e, d = e + 1 := ⟨d - 1, by omega⟩
  have ht := hC.ht
  have hO : (D 135 44).toNat = nO := by rw [hV.hO]; rfl
  have hR : (D 135 45).toNat = nR := by rw [hV.hR]; rfl
  have hO8 := hV.O8
  have hR3 := hV.R3
  have hNO : NM_ (t + 5) (t + 1) 2 (D 137) 4 nO σ := by have h := hX.1.2.1; rw [hO] at h; exact h
  have hNR : NM_ (t + 6) (t + 1) 3 (D 137) 12 nR σ := by have h := hX.1.2.2.1; rw [hR] at h; exact h
  refine ev_in (m := 45) (c := k_X4_readsOdds) (L := [some (am_R 66), none, none, none]) rfl rfl rfl rfl rfl rfl ?_
  refine ax_load (q := 1) rfl rfl rfl rfl rfl ?_
  refine ax_callv (q := 4) rfl rfl rfl rfl rfl rfl ?_
  refine x_nextT (by omega) hC h3 (fun σ1 hg_σ1 hC1 => ?_)
  have hf_σ1 : gx_ [t + 16, t + 17, t + 18] [] [0, 1, 5, 6, 7, 9] σ σ1 := gx_tr2 (gx_rf _ _ _ σ) (gx_su hg_σ1 (by intro x hx; simp at hx ⊢ <;> omega) (by intro x hx; simp at hx ⊢ <;> omega) (by intro x hx; simp at hx ⊢ <;> omega))
  refine ax_load (q := 5) rfl rfl rfl rfl rfl ?_
  refine ax_const (q := 6) (v := am_I 3) rfl rfl rfl ?_
  refine ax_callv (q := 9) rfl rfl rfl rfl rfl rfl ?_
  have hN1 := hNR.fr hg_σ1 (by simp) (by simp) (by omega) (by omega)
  refine x_old3 (by omega) hC1 hN1 (fun e he σd hg_σd g0 => ?_) (fun r hea hr hs1 => ?_)
  · have hf_σd : gx_ [t + 16, t + 17, t + 18] [] [0, 1, 5, 6, 7, 9] σ σd := gx_tr2 hf_σ1 (gx_su hg_σd (by intro x hx; simp at hx ⊢ <;> omega) (by intro x hx; simp at hx ⊢ <;> omega) (by intro x hx; simp at hx ⊢ <;> omega))
    have hu : odd_ tp n (D 137) (D 157) nR nO p = (Sum.inl e, 0) := by unfold odd_; simp only [he]
    refine ax_store (q := 10) (L' := [some (am_R 66), some (am_I (-1)), none, none]) rfl rfl rfl rfl rfl rfl ?_
    refine ax_load (q := 11) rfl rfl rfl rfl rfl ?_
    refine ax_const (q := 12) (v := am_I (-1)) rfl rfl rfl ?_
    refine ax_icmp_ne (q := 15) (x := 17) rfl rfl (fun h => absurd rfl h) (fun h12 => ?_)
    refine ax_const (q := 16) (v := am_I 0) rfl rfl rfl ?_
    refine ax_ret (r := some (am_I 0)) rfl ⟨rfl, Or.inl rfl⟩ ?_
    rw [hu] at hQ
    simp only [sbr_, sbl_] at hQ
    exact hQ.1 _ rfl _ (gl_gx hf_σd (by intro x hx; simp at hx; omega) (by intro x hx; simp at hx) (by intro x hx; simp at hx ⊢; omega)) g0
  · refine ax_store (q := 10) (L' := [some (am_R 66), some (am_I ((r : Nat) : Int)), none, none]) rfl rfl rfl rfl rfl rfl ?_
    refine ax_load (q := 11) rfl rfl rfl rfl rfl ?_
    refine ax_const (q := 12) (v := am_I (-1)) rfl rfl rfl ?_
    refine ax_icmp_ne (q := 15) (x := 17) rfl rfl (fun h12 => ?_) (fun h => absurd h (by omega))
    refine ax_load (q := 18) rfl rfl rfl rfl rfl ?_
    refine ax_callv (q := 21) rfl rfl rfl rfl rfl rfl ?_
    refine x_nextT (by omega) hC1 (fun e => by rw [hs1] at e; exact absurd e (by decide)) (fun σ2 hg_σ2 hC2 => ?_)
    have hf_σ2 : gx_ [t + 16, t + 17, t + 18] [] [0, 1, 5, 6, 7, 9] σ σ2 := gx_tr2 hf_σ1 (gx_su hg_σ2 (by intro x hx; simp at hx ⊢ <;> omega) (by intro x hx; simp at hx ⊢ <;> omega) (by intro x hx; simp at hx ⊢ <;> omega))
    refine ax_load (q := 22) rfl rfl rfl rfl rfl ?_
    refine ax_const (q := 23) (v := am_I 2) rfl rfl rfl ?_
    refine ax_callv (q := 26) rfl rfl rfl rfl rfl rfl ?_
    have hN2 := (hNO.fr hg_σ1 (by simp) (by simp) (by omega) (by omega)).fr hg_σ2 (by simp) (by simp) (by omega) (by omega)
    refine x_old2 (by omega) hC2 hN2 (fun e he σd hg_σd g0 => ?_) (fun o heb ho hs2 => ?_)
    · have hf_σd : gx_ [t + 16, t + 17, t + 18] [] [0, 1, 5, 6, 7, 9] σ σd := gx_tr2 hf_σ2 (gx_su hg_σd (by intro x hx; simp at hx ⊢ <;> omega) (by intro x hx; simp at hx ⊢ <;> omega) (by intro x hx; simp at hx ⊢ <;> omega))
      have hu : odd_ tp n (D 137) (D 157) nR nO p = (Sum.inl e, 0) := by unfold odd_; simp only [hea, he]
      refine ax_store (q := 27) (L' := [some (am_R 66), some (am_I ((r : Nat) : Int)), some (am_I (-1)), none]) rfl rfl rfl rfl rfl rfl ?_
      refine ax_load (q := 28) rfl rfl rfl rfl rfl ?_
      refine ax_const (q := 29) (v := am_I (-1)) rfl rfl rfl ?_
      refine ax_icmp_ne (q := 32) (x := 34) rfl rfl (fun h => absurd rfl h) (fun h29 => ?_)
      refine ax_const (q := 33) (v := am_I 0) rfl rfl rfl ?_
      refine ax_ret (r := some (am_I 0)) rfl ⟨rfl, Or.inl rfl⟩ ?_
      rw [hu] at hQ
      simp only [sbr_, sbl_] at hQ
      exact hQ.1 _ rfl _ (gl_gx hf_σd (by intro x hx; simp at hx; omega) (by intro x hx; simp at hx) (by intro x hx; simp at hx ⊢; omega)) g0
    · have hb9 := hV.od r hr o (by omega)
      have c16 : σ2.1 (t + 16 + r) o = D 157 (8 * r + o) := by rw [hg_σ2.1 _ (by simp) (by omega), hg_σ1.1 _ (by simp) (by omega), hX.2.2.1 r o (by omega) (by omega), hR, if_pos hr]
      refine ax_store (q := 27) (L' := [some (am_R 66), some (am_I ((r : Nat) : Int)), some (am_I ((o : Nat) : Int)), none]) rfl rfl rfl rfl rfl rfl ?_
      refine ax_load (q := 28) rfl rfl rfl rfl rfl ?_
      refine ax_const (q := 29) (v := am_I (-1)) rfl rfl rfl ?_
      refine ax_icmp_ne (q := 32) (x := 34) rfl rfl (fun h29 => ?_) (fun h => absurd h (by omega))
      refine ax_load (q := 35) rfl rfl rfl rfl rfl ?_
      refine ax_getf (q := 38) (v := am_R t) rfl rfl (am_fgR rfl hC2.tn) ?_
      refine ax_getf (q := 41) (v := am_R (t + 15)) rfl rfl (xg7_5 hC.ht) ?_
      refine ax_load (q := 42) rfl rfl rfl rfl rfl ?_
      refine bx_aald (q := 43) (k := r) (z := t + 16 + r) rfl rfl (Or.inl (kd_15 hC.ht)) (by omega) (by omega) (by omega) ?_
      refine ax_load (q := 44) rfl rfl rfl rfl rfl ?_
      refine bx_iald (q := 45) (k := o) (z := D 157 (8 * r + o)) rfl rfl (kd_sh hC.ht (by omega)) (by omega) (by omega) (c16) ?_
      refine ax_if_eq (q := 48) (x := 54) rfl rfl (fun h45 => ?_) (fun h45 => ?_)
      · refine ax_load (q := 55) rfl rfl rfl rfl rfl ?_
        refine ax_callv (q := 58) rfl rfl rfl rfl rfl rfl ?_
        refine x_nextT (by omega) hC2 (fun e => by rw [hs2] at e; exact absurd e (by decide)) (fun σ3 hg_σ3 hC3 => ?_)
        have hf_σ3 : gx_ [t + 16, t + 17, t + 18] [] [0, 1, 5, 6, 7, 9] σ σ3 := gx_tr2 hf_σ2 (gx_su hg_σ3 (by intro x hx; simp at hx ⊢ <;> omega) (by intro x hx; simp at hx ⊢ <;> omega) (by intro x hx; simp at hx ⊢ <;> omega))
        refine ax_load (q := 59) rfl rfl rfl rfl rfl ?_
        refine ax_const (q := 60) (v := am_I 1) rfl rfl rfl ?_
        refine ax_const (q := 62) (v := am_I 9) rfl rfl rfl ?_
        refine ax_callv (q := 65) rfl rfl rfl rfl rfl rfl ?_
        have hu : odd_ tp n (D 137) (D 157) nR nO p = (num_ tp n 1 9 (nxp_ tp n (nxp_ tp n (nxp_ tp n p))), 8 * r + o) := by unfold odd_; simp only [hea, heb, Int.toNat_natCast]; exact if_neg (by omega)
        rw [hu] at hQ
        refine x_num (by omega) hC3 (fun e he σe hg_σe g0 => ?_) (fun b he hb1 hb2 hs3 => ?_)
        · rw [he] at hQ
          simp only [sbr_, sbl_] at hQ
          have hf_σe : gx_ [t + 16, t + 17, t + 18] [] [0, 1, 5, 6, 7, 9] σ σe := gx_tr2 hf_σ3 (gx_su hg_σe (by intro x hx; simp at hx ⊢ <;> omega) (by intro x hx; simp at hx ⊢ <;> omega) (by intro x hx; simp at hx ⊢ <;> omega))
          refine ax_store (q := 66) (L' := [some (am_R 66), some (am_I ((r : Nat) : Int)), some (am_I ((o : Nat) : Int)), some (am_I (-1))]) rfl rfl rfl rfl rfl rfl ?_
          refine ax_load (q := 67) rfl rfl rfl rfl rfl ?_
          refine ax_const (q := 68) (v := am_I (-1)) rfl rfl rfl ?_
          refine ax_icmp_ne (q := 71) (x := 73) rfl rfl (fun h => absurd rfl h) (fun h68 => ?_)
          refine ax_const (q := 72) (v := am_I 0) rfl rfl rfl ?_
          refine ax_ret (r := some (am_I 0)) rfl ⟨rfl, Or.inl rfl⟩ ?_
          exact hQ.1 _ rfl _ (gl_gx hf_σe (by intro x hx; simp at hx; omega) (by intro x hx; simp at hx) (by intro x hx; simp at hx ⊢; omega)) g0
        · rw [he] at hQ
          simp only [sbr_, sbl_] at hQ
          refine ax_store (q := 66) (L' := [some (am_R 66), some (am_I ((r : Nat) : Int)), some (am_I ((o : Nat) : Int)), some (am_I b)]) rfl rfl rfl rfl rfl rfl ?_
          refine ax_load (q := 67) rfl rfl rfl rfl rfl ?_
          refine ax_const (q := 68) (v := am_I (-1)) rfl rfl rfl ?_
          refine ax_icmp_ne (q := 71) (x := 73) rfl rfl (fun h68 => ?_) (fun h => absurd h (by omega))
          refine ax_load (q := 74) rfl rfl rfl rfl rfl ?_
          refine ax_getf (q := 77) (v := am_R t) rfl rfl (am_fgR rfl hC3.tn) ?_
          refine ax_getf (q := 80) (v := am_R (t + 15)) rfl rfl (xg7_5 hC.ht) ?_
          refine ax_load (q := 81) rfl rfl rfl rfl rfl ?_
          refine bx_aald (q := 82) (k := r) (z := t + 16 + r) rfl rfl (Or.inl (kd_15 hC.ht)) (by omega) (by omega) (by omega) ?_
          refine ax_load (q := 83) rfl rfl rfl rfl rfl ?_
          refine ax_load (q := 84) rfl rfl rfl rfl rfl ?_
          refine bx_iast (q := 85) (k := o) rfl rfl (kd_sh hC.ht (by omega)) (by omega) (by omega) ?_
          refine ax_load (q := 86) rfl rfl rfl rfl rfl ?_
          refine ax_callv (q := 89) rfl rfl rfl rfl rfl rfl ?_
          obtain ⟨σ5, e5⟩ : ∃ u, u = (am_sI σ3 (t + 16 + r) (am_up (σ3.1 (t + 16 + r)) o b)) := ⟨_, rfl⟩
          show am_Ev _ _ _ (am_sI σ3 (t + 16 + r) (am_up (σ3.1 (t + 16 + r)) o b)) _
          rw [← e5]
          have hg_σ5 : gx_ [t + 16 + r] [] [] σ3 σ5 := by rw [e5]; exact gx_A (gx_rf _ _ _ _) (by simp) (by omega)
          have hf_σ5 : gx_ [t + 16, t + 17, t + 18] [] [0, 1, 5, 6, 7, 9] σ σ5 := gx_tr2 hf_σ3 (gx_su hg_σ5 (by intro x hx; simp at hx ⊢; omega) (by intro x hx; simp at hx) (by intro x hx; simp at hx))
          have hC5 := hC3.fr hg_σ5 (by simp <;> omega) (by simp) (by simp) (by rw [e5]; rfl)
          have v5 : σ5.1 (t + 16 + r) = am_up (σ.1 (t + 16 + r)) o b := by rw [e5, sI_at, hg_σ3.1 _ (by simp) (by omega), hg_σ2.1 _ (by simp) (by omega), hg_σ1.1 _ (by simp) (by omega)]
          refine x_nextT (by omega) hC5 (fun e => by rw [hs3] at e; exact absurd e (by decide)) (fun σ6 hg_σ6 hC6 => ?_)
          have hf_σ6 : gx_ [t + 16, t + 17, t + 18] [] [0, 1, 5, 6, 7, 9] σ σ6 := gx_tr2 hf_σ5 (gx_su hg_σ6 (by intro x hx; simp at hx ⊢ <;> omega) (by intro x hx; simp at hx ⊢ <;> omega) (by intro x hx; simp at hx ⊢ <;> omega))
          refine ax_load (q := 90) rfl rfl rfl rfl rfl ?_
          refine ax_const (q := 92) (v := am_I 59) rfl rfl rfl ?_
          refine ax_callv (q := 95) rfl rfl rfl rfl rfl rfl ?_
          refine x_semi (by omega) hC6 (fun he σs hg_σs g0 => ?_) (fun he σz hg_σz hCz => ?_)
          · rw [eol_n he] at hQ
            have hf_σs : gx_ [t + 16, t + 17, t + 18] [] [0, 1, 5, 6, 7, 9] σ σs := gx_tr2 hf_σ6 (gx_su hg_σs (by intro x hx; simp at hx ⊢ <;> omega) (by intro x hx; simp at hx ⊢ <;> omega) (by intro x hx; simp at hx ⊢ <;> omega))
            refine ax_ret (r := some (am_I 0)) rfl ⟨rfl, Or.inl rfl⟩ ?_
            exact hQ.1 _ rfl _ (gl_gx hf_σs (by intro x hx; simp at hx; omega) (by intro x hx; simp at hx) (by intro x hx; simp at hx ⊢; omega)) g0
          · rw [eol_y he] at hQ
            have hf_σz : gx_ [t + 16, t + 17, t + 18] [] [0, 1, 5, 6, 7, 9] σ σz := gx_tr2 hf_σ6 (gx_su hg_σz (by intro x hx; simp at hx ⊢ <;> omega) (by intro x hx; simp at hx ⊢ <;> omega) (by intro x hx; simp at hx ⊢ <;> omega))
            refine ax_ret (r := some (am_I 1)) rfl ⟨rfl, Or.inr rfl⟩ ?_
            exact hQ.2 _ _ rfl _ (gl_gx hf_σz (by intro x hx; simp at hx; omega) (by intro x hx; simp at hx) (by intro x hx; simp at hx ⊢; omega)) hCz (xd_odd ht hV hX hf_σz hr ho (by rw [hg_σz.1 _ (by simp) (by omega), hg_σ6.1 _ (by simp) (by omega)]; exact v5) (fun q hq hne => by rw [hg_σz.1 _ (by simp) (by omega), hg_σ6.1 _ (by simp) (by omega), hg_σ5.1 _ (by simp; omega) (by omega), hg_σ3.1 _ (by simp) (by omega), hg_σ2.1 _ (by simp) (by omega), hg_σ1.1 _ (by simp) (by omega)]))
      · refine ax_load (q := 49) rfl rfl rfl rfl rfl ?_
        refine ax_const (q := 50) (v := am_I 3) rfl rfl rfl ?_
        refine ax_callv (q := 53) rfl rfl rfl rfl rfl rfl ?_
        refine x_refuse (by omega) hC2.kx.1 (fun σr hg_σr g0 g1 gJ => ?_)
        have hf_σr : gx_ [t + 16, t + 17, t + 18] [] [0, 1, 5, 6, 7, 9] σ σr := gx_tr2 hf_σ2 (gx_su hg_σr (by intro x hx; simp at hx ⊢ <;> omega) (by intro x hx; simp at hx ⊢ <;> omega) (by intro x hx; simp at hx ⊢ <;> omega))
        have hu : odd_ tp n (D 137) (D 157) nR nO p = (Sum.inl (3, nxp_ tp n (nxp_ tp n p)), 0) := by unfold odd_; simp only [hea, heb, Int.toNat_natCast]; exact if_pos (by omega)
        refine ax_ret (r := some (am_I 0)) rfl ⟨rfl, Or.inl rfl⟩ ?_
        rw [hu] at hQ
        simp only [sbr_, sbl_] at hQ
        exact hQ.1 _ rfl _ (gl_gx hf_σr (by intro x hx; simp at hx; omega) (by intro x hx; simp at hx) (by intro x hx; simp at hx ⊢; omega)) ⟨by rw [g0]; exact (if_neg (fun e => by have e2 : tks_ tp n (nxp_ tp n (nxp_ tp n p)) = 3 := e; rw [hs2] at e2; exact absurd e2 (by decide))).symm, g1⟩

