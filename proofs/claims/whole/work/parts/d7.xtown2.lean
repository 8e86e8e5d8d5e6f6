/-- a town told, as the reference would keep it -/
def tc_ (D : sp_T) : sp_T := fun a => if a = 135 then (fun k => if k = 50 then D 135 43 else if k = 51 then D 135 44 else if k = 52 then D 135 45 else if k = 53 then D 135 46 else if k = 54 then D 135 47 else if k = 55 then D 135 48 else if k = 21 then D 135 20 else if k = 60 then D 135 57 else if k = 18 then (if D 135 57 = 0 then 0 else D 135 17) else 0) else if a = 151 then D 145 else if a = 152 then D 146 else if a = 153 then D 147 else if a = 154 then D 148 else if a = 155 then D 149 else if a = 156 then D 150 else if a = 158 then D 157 else if a = 162 then D 159 else if a = 140 then D 138 else if a = 141 then D 139 else fun _ => 0
theorem tc_td (D : sp_T) (nP nF : Nat) : TD_ (tc_ D) D nP nF := ⟨rfl, rfl, rfl, rfl, rfl, rfl, rfl, rfl, rfl, fun _ _ => ⟨rfl, rfl, rfl, rfl, rfl, rfl⟩, fun _ _ => rfl, fun _ _ => rfl, fun _ _ => ⟨rfl, rfl⟩⟩
theorem XD_.fr {t : Nat} {D : sp_T} {nS nO nR nP nU : Nat} (hV : DW_ D nS nO nR nP nU) {σ σ' : am_S} (hX : XD_ t D σ) (h1 : ∀ b, t ≤ b → b ≤ t + 30 → σ'.1 b = σ.1 b) (h2 : ∀ b, t ≤ b → b ≤ t + 30 → σ'.2.1 b = σ.2.1 b) (h3 : σ'.1 66 11 = σ.1 66 11) : XD_ t D σ' := by
  have hP : (D 135 46).toNat = nP := by rw [hV.hP]; rfl
  have hP6 := hV.P6
  exact ⟨hX.1.cg (fun s hs => by rw [h1 (t + 1) (by omega) (by omega)]) (fun a a1 a2 => h2 a (by omega) (by omega)) rfl rfl rfl rfl rfl, hX.2.1.cg (fun a a1 a2 => h1 a (by omega) (by omega)) (fun _ _ _ => rfl) rfl, hX.2.2.1.cg (fun r hr => h1 _ (by omega) (by omega)) rfl rfl, hX.2.2.2.1.cg (by omega) (fun a a1 a2 => h1 a (by omega) (by omega)) (fun _ _ _ => rfl) rfl, hX.2.2.2.2.1.cg (h1 _ (by omega) (by omega)) (by rw [h1 (t + 1) (by omega) (by omega)]) rfl rfl rfl, hX.2.2.2.2.2.1.cg (fun a a1 a2 => h1 a (by omega) (by omega)) rfl rfl rfl rfl rfl, hX.2.2.2.2.2.2.cg h3 rfl rfl rfl⟩
theorem xt_of {t : Nat} (ht : t = 2 ∨ t = 34) {T D : sp_T} {nS nO nR nP nU nF : Nat} (hV : DW_ D nS nO nR nP nU) (hT : TD_ T D nP nF) (hF : (nF : Int) = T 135 18) {σ : am_S} (hX : XD_ t D σ) : XT_ t T σ := by
  obtain ⟨hTV, n1, n2, n3, n4⟩ := hT.tv hV hF
  have hO : (D 135 44).toNat = nO := by rw [hV.hO]; rfl
  have hS : (D 135 43).toNat = nS := by rw [hV.hS]; rfl
  have hR : (D 135 45).toNat = nR := by rw [hV.hR]; rfl
  have hP : (D 135 46).toNat = nP := by rw [hV.hP]; rfl
  have hO8 := hV.O8
  have hR3 := hV.R3
  have hP6 := hV.P6
  have hnF : nF_ T = nF := by unfold nF_; rw [← hF]; rfl
  obtain ⟨x1, x2, x3, x4, x5, x6, x7⟩ := hX
  refine ⟨ht, ?_, ?_, ?_, ?_, ?_, ?_, ?_, ?_, ?_, ?_, ?_, ?_, ?_, ?_, ?_, ?_, ?_, ?_, ?_⟩
  · rw [x1.2.2.2.1, hP, hT.e53, hV.hP]
  · rw [x1.1.1, hS, hT.e50, hV.hS]
  · rw [x1.2.1.1, hO, hT.e51, hV.hO]
  · rw [x1.2.2.1.1, hR, hT.e52, hV.hR]
  · rw [x5.2.2, hT.e54]
  · intro o ho
    rw [((x2 o (by omega)).1 (by omega)).1, (hT.o o (by omega)).1]
  · intro o ho
    rw [((x2 o (by omega)).1 (by omega)).2.1, (hT.o o (by omega)).2.1]
  · intro o ho
    rw [((x2 o (by omega)).1 (by omega)).2.2.1, (hT.o o (by omega)).2.2.1]
  · intro o ho
    rw [((x2 o (by omega)).1 (by omega)).2.2.2.1, (hT.o o (by omega)).2.2.2.1]
  · intro o ho
    rw [((x2 o (by omega)).1 (by omega)).2.2.2.2.1, (hT.o o (by omega)).2.2.2.2.1]
  · intro o ho
    rw [((x2 o (by omega)).1 (by omega)).2.2.2.2.2, (hT.o o (by omega)).2.2.2.2.2]
  · intro o ho
    rw [(x2 o (by omega)).2.2, hO, n3]
    congr 1
    exact bi_eq nO (fun k hk => by rw [(hT.o k (by omega)).2.2.2.2.2])
  · intro r o hr ho
    exact ⟨by omega, by rw [x3 r o (by omega) (by omega), if_pos (by omega), hT.r _ (by omega)]⟩
  · intro p hp
    rw [(x4 p (by omega)).1, hT.p p (by omega)]
  · rw [x5.1, hT.e55]
  · rw [x6.2.1, hT.e18]
  · rw [x6.1, hT.e21]
  · intro k hk
    rw [hnF] at hk
    rcases hV.tc.2.1 with q | q
    · have := hT.e18
      rw [if_pos q] at this
      omega
    · have h18 := hT.e18
      rw [if_neg (by omega)] at h18
      rw [(x6.2.2 q k (by omega)).1, (hT.f k hk).1, (hT.f k hk).2]
  · intro k hk h0
    rw [hnF] at hk
    rcases hV.tc.2.1 with q | q
    · have := hT.e18
      rw [if_pos q] at this
      omega
    · have h18 := hT.e18
      rw [if_neg (by omega)] at h18
      rw [(hT.f k hk).1] at h0
      rw [(x6.2.2 q k (by omega)).2 h0, (hT.f k hk).2]
/-- a row of the class as the reference has it -/
def vx_ (x : Nat → Int) : sp_V := fun j => if j < 6 then x j else if j < 12 then x (12 + j) else if j < 18 then x (j - 6) else if j < 24 then x (j - 6) else if j = 49 then x 48 else x j
theorem vx_rw {T : sp_T} (h6 : nP_ T ≤ 6) (x : Nat → Int) : RW_x T (vx_ x) x := by
  refine ⟨rfl, fun p hp => ?_, fun p hp => ?_, fun p hp => ?_, fun p hp => ?_, fun p s hp hs => ?_⟩
  · unfold vx_; rw [if_pos (by omega)]
  · unfold vx_; rw [if_neg (by omega), if_neg (by omega), if_pos (by omega)]; congr 1; omega
  · unfold vx_; rw [if_neg (by omega), if_neg (by omega), if_neg (by omega), if_pos (by omega)]; congr 1; omega
  · unfold vx_; rw [if_neg (by omega), if_pos (by omega)]; congr 1; omega
  · unfold vx_; rw [if_neg (by omega), if_neg (by omega), if_neg (by omega), if_neg (by omega), if_neg (by omega)]
/-- what a new town may change -/
def kw_ (t : Nat) (σ σ' : am_S) : Prop := (∀ b, (b < t ∨ t + 30 < b) → b ≠ 0 → b ≠ 66 → b ≠ 68 → b ≠ 69 → b ≠ 72 → b ≠ 127 → (b < 74 ∨ 114 < b) → σ'.1 b = σ.1 b) ∧ (∀ k, k ≠ 1 → k ≠ 8 → k ≠ 14 → σ'.1 0 k = σ.1 0 k) ∧ (∀ b, (b < t ∨ t + 30 < b) → b ≠ 66 → σ'.2.1 b = σ.2.1 b) ∧ σ'.2.2.2 = σ.2.2.2

theorem x_town {d : Nat} (hd : 68 ≤ d) {σ : am_S} {tp : Nat → Int} {n t s : Nat} (ht : t = 2 ∨ t = 34) (hn : σ.1 0 1 = (n : Int)) (hsp : σ.2.2.1 0 2 = some t) (hto : σ.2.2.1 68 1 = some s) (hTP : TP_ (σ.1 1) tp n) (hn9 : n ≤ 1600) (hW : WT_ σ) {D : sp_T} (hZ : Z0_ D) {Q : Option am_V → am_S → Prop} (hE : ∀ e, rall_ tp n D = Sum.inl e → ∀ σ', gw_ t (am_sI σ 0 (am_up (σ.1 0) 1 0)) σ' → FX_ tp n e σ' → Q (some (am_I (-1))) σ') (hY : ∀ D' p' m, rall_ tp n D = Sum.inr (D', p') → (∃ mS mO mR mP mU, DW_ D' mS mO mR mP mU) → D' 135 49 = ((m : Nat) : Int) → ∀ σ' hs, kw_ t σ σ' → σ'.1 0 1 = 0 → σ'.1 0 8 = 0 → σ'.1 0 14 = 0 → σ'.1 127 0 = 0 → σ'.2.2.1 0 2 = some s → σ'.2.2.1 68 1 = some t → σ'.1 66 0 = 0 → σ'.1 66 1 = -1 → XD_ t D' σ' → BG_ (tc_ D') D' m (D' 135 46).toNat (σ'.1 69) → σ'.1 68 2 = ((sd_ m (D' 135 46).toNat : Nat) : Int) → hs 0 = vx_ (σ'.1 69) → XH_ (tc_ D') 0 0 hs σ' → Q (some (am_I (D' 135 46))) σ') : am_Ev d 94 [am_R 0] σ Q := by
  obtain ⟨d, rfl⟩ : ∃ e, d = e + 1 := ⟨d - 1, by omega⟩
  have hX7 : PT_ t := ht
  refine ev_in (m := 94) (c := k_X8_town) (L := [some (am_R 0), none, none]) rfl rfl rfl rfl rfl rfl ?_
  refine ax_load (q := 1) rfl rfl rfl rfl rfl ?_
  refine ax_getf (q := 4) (v := am_I ((n : Nat) : Int)) rfl rfl (am_fg rfl hn) ?_
  refine ax_store (q := 5) (L' := [some (am_R 0), some (am_I ((n : Nat) : Int)), none]) rfl rfl rfl rfl rfl rfl ?_
  refine ax_load (q := 6) rfl rfl rfl rfl rfl ?_
  refine ax_const (q := 7) (v := am_I 0) rfl rfl rfl ?_
  refine ax_putf (q := 10) rfl rfl rfl ?_
  obtain ⟨σ1, e1⟩ : ∃ u, u = (am_sI σ 0 (am_up (σ.1 0) 1 0)) := ⟨_, rfl⟩
  rw [← e1]
  have r1 : σ1.2 = σ.2 := by rw [e1]; rfl
  have b1 : ∀ b, b ≠ 0 → σ1.1 b = σ.1 b := fun b hb => by rw [e1, sI_ne hb]
  have k1 : ∀ k, k ≠ 1 → σ1.1 0 k = σ.1 0 k := fun k hk => by rw [e1, sI_at, am_up_ne hk]
  have z1 : σ1.1 0 1 = 0 := by rw [e1, sI_at, am_up_same]
  rw [← e1] at hE
  refine ax_load (q := 11) rfl rfl rfl rfl rfl ?_
  refine ax_getf (q := 14) (v := am_R 66) rfl rfl (rfl) ?_
  refine ax_load (q := 15) rfl rfl rfl rfl rfl ?_
  refine ax_load (q := 16) rfl rfl rfl rfl rfl ?_
  refine ax_getf (q := 19) (v := am_R t) rfl rfl (am_fgR rfl (by rw [r1]; exact hsp)) ?_
  refine ax_callv (q := 22) rfl rfl rfl rfl rfl rfl ?_
  refine x_readsTown (by omega) ht (by rw [b1 1 (by decide)]; exact hTP) hn9 (fun i hi => by rw [r1]; exact hW i hi) hZ (fun e he σe hge g0 => ?_) (fun D' p' he σ2 hg2 f0 f1 hX2 => ?_)
  · refine ax_if_ne (q := 25) (x := 27) rfl rfl (fun h => absurd h (by omega)) (fun h22 => ?_)
    refine ax_const (q := 26) (v := am_I (-1)) rfl rfl rfl ?_
    refine ax_ret (r := some (am_I (-1))) rfl rfl ?_
    exact hE e he _ hge g0
  · have hsp2 : σ2.2.2.1 0 2 = some t := by rw [hg2.2.2.1 0 (by decide), r1]; exact hsp
    have hto2 : σ2.2.2.1 68 1 = some s := by rw [hg2.2.2.1 68 (by decide), r1]; exact hto
    have hDW : ∃ mS mO mR mP mU, DW_ D' mS mO mR mP mU := all_in (n + 1) D (skp_ tp n n 0) he (by have := skp_le tp n n 0; omega) ⟨_, _, _, _, _, hZ.dw⟩
    obtain ⟨mS, mO, mR, mP, mU, hV⟩ := hDW
    refine ax_if_ne (q := 25) (x := 27) rfl rfl (fun h22 => ?_) (fun h => absurd h (by omega))
    refine ax_load (q := 28) rfl rfl rfl rfl rfl ?_
    refine ax_getf (q := 31) (v := am_R t) rfl rfl (am_fgR rfl hsp2) ?_
    refine ax_store (q := 32) (L' := [some (am_R 0), some (am_I ((n : Nat) : Int)), some (am_R t)]) rfl rfl rfl rfl rfl rfl ?_
    refine ax_load (q := 33) rfl rfl rfl rfl rfl ?_
    refine ax_load (q := 34) rfl rfl rfl rfl rfl ?_
    refine ax_getf (q := 37) (v := am_R 68) rfl rfl (rfl) ?_
    refine ax_getf (q := 40) (v := am_R s) rfl rfl (am_fgR rfl hto2) ?_
    refine ax_putf (q := 43) rfl rfl rfl ?_
    refine ax_load (q := 44) rfl rfl rfl rfl rfl ?_
    refine ax_getf (q := 47) (v := am_R 68) rfl rfl (rfl) ?_
    refine ax_load (q := 48) rfl rfl rfl rfl rfl ?_
    refine ax_putf (q := 51) rfl rfl rfl ?_
    refine ax_load (q := 52) rfl rfl rfl rfl rfl ?_
    refine ax_getf (q := 55) (v := am_R 68) rfl rfl (rfl) ?_
    refine ax_callv (q := 58) rfl rfl rfl rfl rfl rfl ?_
    obtain ⟨σ3, e3⟩ : ∃ u, u = (am_sR (am_sR σ2 0 (am_up (σ2.2.2.1 0) 2 (some s))) 68 (am_up ((am_sR σ2 0 (am_up (σ2.2.2.1 0) 2 (some s))).2.2.1 68) 1 (some t))) := ⟨_, rfl⟩
    show am_Ev _ _ _ (am_sR (am_sR σ2 0 (am_up (σ2.2.2.1 0) 2 (some s))) 68 (am_up ((am_sR σ2 0 (am_up (σ2.2.2.1 0) 2 (some s))).2.2.1 68) 1 (some t))) _
    rw [← e3]
    have i3 : σ3.1 = σ2.1 := by rw [e3]; rfl
    have l3 : σ3.2.1 = σ2.2.1 := by rw [e3]; rfl
    have s3 : σ3.2.2.2 = σ2.2.2.2 := by rw [e3]; rfl
    have q3 : σ3.2.2.1 0 2 = some s := by rw [e3]; rfl
    have p3 : σ3.2.2.1 68 1 = some t := by rw [e3]; rfl
    clear e3
    have hX3 : XD_ t D' σ3 := hX2.fr hV (fun b _ _ => by rw [i3]) (fun b _ _ => by rw [l3]) (by rw [i3])
    obtain ⟨nF, hnF⟩ : ∃ nF : Nat, (nF : Int) = tc_ D' 135 18 := by
      rcases hV.tc.2.1 with q | q
      · exact ⟨0, by show ((0 : Nat) : Int) = (if D' 135 57 = 0 then 0 else D' 135 17); rw [if_pos q]; rfl⟩
      · obtain ⟨ls, g8, g9, q1, q2, q3, q4, q5, q6⟩ := hV.tc.2.2.2 q
        exact ⟨ls.length, by show ((ls.length : Nat) : Int) = (if D' 135 57 = 0 then 0 else D' 135 17); rw [if_neg (by omega), q1]⟩
    have hTD := tc_td D' mP nF
    obtain ⟨hTV, n1, n2, n3, n4⟩ := hTD.tv hV hnF
    have hP : (D' 135 46).toNat = mP := by rw [hV.hP]; rfl
    have hP6 := hV.P6
    have hXT3 := xt_of ht hV hTD hnF hX3
    have hdr := hV.dr
    obtain ⟨m, hm⟩ : ∃ m : Nat, D' 135 49 = (m : Int) := ⟨(D' 135 49).toNat, by omega⟩
    refine x_begin2 (D := D') (s := m) (by omega) p3 hXT3 hTV (by omega) (fun p hp => (hX3.2.2.2.1 p (by omega)).2.1) (fun p i hp hi => (hX3.2.2.2.1 p (by omega)).2.2 i hi) (by rw [hX3.2.2.2.2.1.2.1, hm]) (fun σ4 hf4 hB4 hs4 => ?_)
    refine ax_load (q := 59) rfl rfl rfl rfl rfl ?_
    refine ax_getf (q := 62) (v := am_R 72) rfl rfl (rfl) ?_
    refine ax_load (q := 63) rfl rfl rfl rfl rfl ?_
    refine ax_getf (q := 66) (v := am_R 68) rfl rfl (rfl) ?_
    refine ax_getf (q := 69) (v := am_R 69) rfl rfl (rfl) ?_
    refine ax_callv (q := 72) rfl rfl rfl rfl rfl rfl ?_
    refine x_hclear (T := tc_ D') (v := vx_ (σ4.1 69)) (by omega) (vx_rw (by omega) _) (by omega) (fun σ5 hs hf5 hh5 hH5 => ?_)
    refine ax_load (q := 73) rfl rfl rfl rfl rfl ?_
    refine ax_getf (q := 76) (v := am_R 127) rfl rfl (rfl) ?_
    refine ax_const (q := 77) (v := am_I 0) rfl rfl rfl ?_
    refine ax_putf (q := 80) rfl rfl rfl ?_
    refine ax_load (q := 81) rfl rfl rfl rfl rfl ?_
    refine ax_const (q := 82) (v := am_I 0) rfl rfl rfl ?_
    refine ax_putf (q := 85) rfl rfl rfl ?_
    refine ax_load (q := 86) rfl rfl rfl rfl rfl ?_
    refine ax_const (q := 87) (v := am_I 0) rfl rfl rfl ?_
    refine ax_putf (q := 90) rfl rfl rfl ?_
    refine ax_load (q := 91) rfl rfl rfl rfl rfl ?_
    refine ax_getf (q := 94) (v := am_R (t + 1)) rfl rfl (xg7_0 hX7.ht) ?_
    refine ax_const (q := 95) (v := am_I 0) rfl rfl rfl ?_
    refine bx_iald (q := 96) (k := 0) (z := D' 135 46) rfl rfl (kd_1 hX7.ht) (by omega) (by omega) (by rw [sI_ne (by omega), sI_ne (by omega), sI_ne (by omega), hf5.1 (t + 1) (by omega) (by omega), hf4.1 (t + 1) (by simp; omega)]; exact hXT3.c0) ?_
    refine ax_ret (r := some (am_I (D' 135 46))) rfl rfl ?_
    obtain ⟨σ6, e6⟩ : ∃ u, u = (am_sI (am_sI (am_sI σ5 127 (am_up (σ5.1 127) 0 0)) 0 (am_up ((am_sI σ5 127 (am_up (σ5.1 127) 0 0)).1 0) 14 0)) 0 (am_up ((am_sI (am_sI σ5 127 (am_up (σ5.1 127) 0 0)) 0 (am_up ((am_sI σ5 127 (am_up (σ5.1 127) 0 0)).1 0) 14 0)).1 0) 8 0)) := ⟨_, rfl⟩
    rw [← e6]
    have i6 : ∀ b, b ≠ 0 → b ≠ 127 → σ6.1 b = σ5.1 b := fun b h0 h1 => by rw [e6, sI_ne h0, sI_ne h0, sI_ne h1]
    have k6 : ∀ k, k ≠ 8 → k ≠ 14 → σ6.1 0 k = σ5.1 0 k := fun k h8 h14 => by rw [e6, sI_at, am_up_ne h8, sI_at, am_up_ne h14, sI_ne (by decide)]
    have z8 : σ6.1 0 8 = 0 := by rw [e6, sI_at, am_up_same]
    have z14 : σ6.1 0 14 = 0 := by rw [e6, sI_at, am_up_ne (by decide), sI_at, am_up_same]
    have z127 : σ6.1 127 0 = 0 := by rw [e6, sI_ne (by decide), sI_ne (by decide), sI_at, am_up_same]
    have r6 : σ6.2 = σ5.2 := by rw [e6]; rfl
    clear e6
    have i5 : ∀ b, b ≠ 72 → (b < 74 ∨ 114 < b) → σ5.1 b = σ4.1 b := hf5.1
    have c3 : ∀ b, b ≠ 0 → b ≠ 127 → b ≠ 72 → (b < 74 ∨ 114 < b) → b ≠ 68 → b ≠ 69 → σ6.1 b = σ2.1 b := fun b h0 h1 h2 h3 h4 h5 => by rw [i6 b h0 h1, i5 b h2 h3, hf4.1 b (by simp [h4, h5]), i3]
    have c0 : ∀ k, k ≠ 8 → k ≠ 14 → σ6.1 0 k = σ2.1 0 k := fun k h1 h2 => by rw [k6 k h1 h2, i5 0 (by decide) (by decide), hf4.1 0 (by simp), i3]
    have c69 : σ6.1 69 = σ4.1 69 := by rw [i6 69 (by decide) (by decide), i5 69 (by decide) (by decide)]
    have rr6 : σ6.2 = σ3.2 := by rw [r6, hf5.2, hf4.2]
    refine hY D' p' m he ⟨_, _, _, _, _, hV⟩ hm σ6 hs ⟨fun b hb h0 h66 h68 h69 h72 h127 h74 => ?_, fun k h1 h8 h14 => ?_, fun b hb h66 => ?_, ?_⟩ ?_ z8 z14 z127 ?_ ?_ ?_ ?_ ?_ ?_ ?_ ?_ ?_
    · rw [c3 b h0 h127 h72 h74 h68 h69, hg2.1 b hb h66, b1 b h0]
    · rw [c0 k h8 h14, hg2.1 0 (by omega) (by decide), k1 k h1]
    · rw [rr6, l3, hg2.2.1 b hb h66, r1]
    · rw [rr6, s3, hg2.2.2.2, r1]
    · rw [c0 1 (by decide) (by decide), hg2.1 0 (by omega) (by decide)]; exact z1
    · rw [rr6]; exact q3
    · rw [rr6]; exact p3
    · rw [c3 66 (by decide) (by decide) (by decide) (by decide) (by decide) (by decide)]; exact f0
    · rw [c3 66 (by decide) (by decide) (by decide) (by decide) (by decide) (by decide)]; exact f1
    · exact hX2.fr hV (fun b h1 h2 => c3 b (by omega) (by omega) (by omega) (by omega) (by omega) (by omega)) (fun b _ _ => by rw [rr6, l3]) (by rw [c3 66 (by decide) (by decide) (by decide) (by decide) (by decide) (by decide)])
    · rw [hP, c69, ← n1]; exact hB4
    · rw [hP, i6 68 (by decide) (by decide), i5 68 (by decide) (by decide), ← n1]; exact hs4
    · rw [c69]; exact hh5
    · obtain ⟨w1, w2, w3, old, w4, w5, w6⟩ := hH5
      exact ⟨by rw [i6 72 (by decide) (by decide)]; exact w1, by rw [i6 72 (by decide) (by decide)]; exact w2, w3, old, w4, by rw [i6 72 (by decide) (by decide)]; exact w5, fun i hi => by rw [i6 _ (by omega) (by have := Nat.mod_lt (old + i) (show 0 < 41 by decide); omega)]; exact w6 i hi⟩

