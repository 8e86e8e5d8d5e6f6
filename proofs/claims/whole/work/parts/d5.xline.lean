theorem wd_n {tp : Nat → Int} {n p : Nat} {w : Int} (hw : wd_ tp n p w) : ∀ v : Int, v ≠ w → ¬ wd_ tp n p v := fun v h q => h (q.2.symm.trans hw.2)
theorem lin_y0 {tp : Nat → Int} {n p : Nat} {D : sp_T} (hw : wd_ tp n p 495723310188) (hc : D 135 43 < 4) : lin_ tp n D p = sb_ (nwn_ tp n (D 137) 0 (D 135 43).toNat p) fun p' => Sum.inr (du_ (du_ D 137 (0 + (D 135 43).toNat) (tkw_ tp n (nxp_ tp n p))) 135 43 (((D 135 43).toNat + 1 : Nat) : Int), p') := by
  have hn := wd_n hw
  unfold lin_
  rw [if_pos ⟨hw, hc⟩]
theorem lin_n0 {tp : Nat → Int} {n p : Nat} {D : sp_T} (hw : wd_ tp n p 495723310188) (hc : ¬ (D 135 43 < 4)) : lin_ tp n D p = Sum.inl (2, p) := by
  have hn := wd_n hw
  unfold lin_
  rw [if_neg (fun q => hc q.2)]
  rw [if_neg (fun q => hn _ (by decide) q.1)]
  rw [if_neg (fun q => hn _ (by decide) q.1)]
  rw [if_neg (fun q => hn _ (by decide) q)]
  rw [if_neg (fun q => hn _ (by decide) q.1)]
  rw [if_neg (fun q => hn _ (by decide) q.1)]
  rw [if_neg (fun q => hn _ (by decide) q.1)]
  rw [if_neg (fun q => hn _ (by decide) q.1)]
  rw [if_neg (fun q => hn _ (by decide) q.1)]
theorem lin_y1 {tp : Nat → Int} {n p : Nat} {D : sp_T} (hw : wd_ tp n p 478660552050) (hc : D 135 44 < 8) : lin_ tp n D p = ord_ tp n D (D 135 44).toNat (D 135 43).toNat p := by
  have hn := wd_n hw
  unfold lin_
  rw [if_neg (fun q => hn _ (by decide) q.1)]
  rw [if_pos ⟨hw, hc⟩]
theorem lin_n1 {tp : Nat → Int} {n p : Nat} {D : sp_T} (hw : wd_ tp n p 478660552050) (hc : ¬ (D 135 44 < 8)) : lin_ tp n D p = Sum.inl (2, p) := by
  have hn := wd_n hw
  unfold lin_
  rw [if_neg (fun q => hn _ (by decide) q.1)]
  rw [if_neg (fun q => hc q.2)]
  rw [if_neg (fun q => hn _ (by decide) q.1)]
  rw [if_neg (fun q => hn _ (by decide) q)]
  rw [if_neg (fun q => hn _ (by decide) q.1)]
  rw [if_neg (fun q => hn _ (by decide) q.1)]
  rw [if_neg (fun q => hn _ (by decide) q.1)]
  rw [if_neg (fun q => hn _ (by decide) q.1)]
  rw [if_neg (fun q => hn _ (by decide) q.1)]
theorem lin_y2 {tp : Nat → Int} {n p : Nat} {D : sp_T} (hw : wd_ tp n p 123563833652072) (hc : D 135 45 < 3) : lin_ tp n D p = sb_ (nwn_ tp n (D 137) 12 (D 135 45).toNat p) fun p' => Sum.inr (du_ (am_up (du_ D 137 (12 + (D 135 45).toNat) (tkw_ tp n (nxp_ tp n p))) 157 (cd_ (fun _ => 0) (D 157) (8 * (D 135 45).toNat) 8)) 135 45 (((D 135 45).toNat + 1 : Nat) : Int), p') := by
  have hn := wd_n hw
  unfold lin_
  rw [if_neg (fun q => hn _ (by decide) q.1)]
  rw [if_neg (fun q => hn _ (by decide) q.1)]
  rw [if_pos ⟨hw, hc⟩]
theorem lin_n2 {tp : Nat → Int} {n p : Nat} {D : sp_T} (hw : wd_ tp n p 123563833652072) (hc : ¬ (D 135 45 < 3)) : lin_ tp n D p = Sum.inl (2, p) := by
  have hn := wd_n hw
  unfold lin_
  rw [if_neg (fun q => hn _ (by decide) q.1)]
  rw [if_neg (fun q => hn _ (by decide) q.1)]
  rw [if_neg (fun q => hc q.2)]
  rw [if_neg (fun q => hn _ (by decide) q)]
  rw [if_neg (fun q => hn _ (by decide) q.1)]
  rw [if_neg (fun q => hn _ (by decide) q.1)]
  rw [if_neg (fun q => hn _ (by decide) q.1)]
  rw [if_neg (fun q => hn _ (by decide) q.1)]
  rw [if_neg (fun q => hn _ (by decide) q.1)]
theorem lin_y3 {tp : Nat → Int} {n p : Nat} {D : sp_T} (hw : wd_ tp n p 1868850291) : lin_ tp n D p = sb_ (odd_ tp n (D 137) (D 157) (D 135 45).toNat (D 135 44).toNat p).1 fun r => Sum.inr (du_ D 157 (odd_ tp n (D 137) (D 157) (D 135 45).toNat (D 135 44).toNat p).2 r.1, r.2) := by
  have hn := wd_n hw
  unfold lin_
  rw [if_neg (fun q => hn _ (by decide) q.1)]
  rw [if_neg (fun q => hn _ (by decide) q.1)]
  rw [if_neg (fun q => hn _ (by decide) q.1)]
  rw [if_pos hw]
theorem lin_y4 {tp : Nat → Int} {n p : Nat} {D : sp_T} (hw : wd_ tp n p 123581014175598) (hc : D 135 46 < 6) : lin_ tp n D p = per_ tp n D (D 135 46).toNat (D 135 43).toNat (D 135 45).toNat p := by
  have hn := wd_n hw
  unfold lin_
  rw [if_neg (fun q => hn _ (by decide) q.1)]
  rw [if_neg (fun q => hn _ (by decide) q.1)]
  rw [if_neg (fun q => hn _ (by decide) q.1)]
  rw [if_neg (fun q => hn _ (by decide) q)]
  rw [if_pos ⟨hw, hc⟩]
theorem lin_n4 {tp : Nat → Int} {n p : Nat} {D : sp_T} (hw : wd_ tp n p 123581014175598) (hc : ¬ (D 135 46 < 6)) : lin_ tp n D p = Sum.inl (2, p) := by
  have hn := wd_n hw
  unfold lin_
  rw [if_neg (fun q => hn _ (by decide) q.1)]
  rw [if_neg (fun q => hn _ (by decide) q.1)]
  rw [if_neg (fun q => hn _ (by decide) q.1)]
  rw [if_neg (fun q => hn _ (by decide) q)]
  rw [if_neg (fun q => hc q.2)]
  rw [if_neg (fun q => hn _ (by decide) q.1)]
  rw [if_neg (fun q => hn _ (by decide) q.1)]
  rw [if_neg (fun q => hn _ (by decide) q.1)]
  rw [if_neg (fun q => hn _ (by decide) q.1)]
theorem lin_y5 {tp : Nat → Int} {n p : Nat} {D : sp_T} (hw : wd_ tp n p 129116991874419) (hc : D 135 47 < 8) : lin_ tp n D p = sb_ (und_ tp n (D 137) (D 150) (D 135 44).toNat p).1 fun p' => Sum.inr (du_ (du_ D 150 (und_ tp n (D 137) (D 150) (D 135 44).toNat p).2.1 (((D 150 (und_ tp n (D 137) (D 150) (D 135 44).toNat p).2.1).toNat ||| 2 ^ (und_ tp n (D 137) (D 150) (D 135 44).toNat p).2.2 : Nat) : Int)) 135 47 (((D 135 47).toNat + 1 : Nat) : Int), p') := by
  have hn := wd_n hw
  unfold lin_
  rw [if_neg (fun q => hn _ (by decide) q.1)]
  rw [if_neg (fun q => hn _ (by decide) q.1)]
  rw [if_neg (fun q => hn _ (by decide) q.1)]
  rw [if_neg (fun q => hn _ (by decide) q)]
  rw [if_neg (fun q => hn _ (by decide) q.1)]
  rw [if_pos ⟨hw, hc⟩]
theorem lin_n5 {tp : Nat → Int} {n p : Nat} {D : sp_T} (hw : wd_ tp n p 129116991874419) (hc : ¬ (D 135 47 < 8)) : lin_ tp n D p = Sum.inl (2, p) := by
  have hn := wd_n hw
  unfold lin_
  rw [if_neg (fun q => hn _ (by decide) q.1)]
  rw [if_neg (fun q => hn _ (by decide) q.1)]
  rw [if_neg (fun q => hn _ (by decide) q.1)]
  rw [if_neg (fun q => hn _ (by decide) q)]
  rw [if_neg (fun q => hn _ (by decide) q.1)]
  rw [if_neg (fun q => hc q.2)]
  rw [if_neg (fun q => hn _ (by decide) q.1)]
  rw [if_neg (fun q => hn _ (by decide) q.1)]
  rw [if_neg (fun q => hn _ (by decide) q.1)]
theorem lin_y6 {tp : Nat → Int} {n p : Nat} {D : sp_T} (hw : wd_ tp n p 499917087592) (hc : D 135 57 = 0) : lin_ tp n D p = sb_ (tea_ tp n p) fun r => Sum.inr (tq_ (du_ D 135 57 1) r.2.1 r.2.2, r.1) := by
  have hn := wd_n hw
  unfold lin_
  rw [if_neg (fun q => hn _ (by decide) q.1)]
  rw [if_neg (fun q => hn _ (by decide) q.1)]
  rw [if_neg (fun q => hn _ (by decide) q.1)]
  rw [if_neg (fun q => hn _ (by decide) q)]
  rw [if_neg (fun q => hn _ (by decide) q.1)]
  rw [if_neg (fun q => hn _ (by decide) q.1)]
  rw [if_pos ⟨hw, hc⟩]
theorem lin_n6 {tp : Nat → Int} {n p : Nat} {D : sp_T} (hw : wd_ tp n p 499917087592) (hc : ¬ (D 135 57 = 0)) : lin_ tp n D p = Sum.inl (2, p) := by
  have hn := wd_n hw
  unfold lin_
  rw [if_neg (fun q => hn _ (by decide) q.1)]
  rw [if_neg (fun q => hn _ (by decide) q.1)]
  rw [if_neg (fun q => hn _ (by decide) q.1)]
  rw [if_neg (fun q => hn _ (by decide) q)]
  rw [if_neg (fun q => hn _ (by decide) q.1)]
  rw [if_neg (fun q => hn _ (by decide) q.1)]
  rw [if_neg (fun q => hc q.2)]
  rw [if_neg (fun q => hn _ (by decide) q.1)]
  rw [if_neg (fun q => hn _ (by decide) q.1)]
theorem lin_y7 {tp : Nat → Int} {n p : Nat} {D : sp_T} (hw : wd_ tp n p 1869636974) (hc : D 135 58 = 0) : lin_ tp n D p = sb_ (tol_ tp n 1869636974 1 60 p) fun r => Sum.inr (du_ (du_ D 135 58 1) 135 48 r.1, r.2) := by
  have hn := wd_n hw
  unfold lin_
  rw [if_neg (fun q => hn _ (by decide) q.1)]
  rw [if_neg (fun q => hn _ (by decide) q.1)]
  rw [if_neg (fun q => hn _ (by decide) q.1)]
  rw [if_neg (fun q => hn _ (by decide) q)]
  rw [if_neg (fun q => hn _ (by decide) q.1)]
  rw [if_neg (fun q => hn _ (by decide) q.1)]
  rw [if_neg (fun q => hn _ (by decide) q.1)]
  rw [if_pos ⟨hw, hc⟩]
theorem lin_n7 {tp : Nat → Int} {n p : Nat} {D : sp_T} (hw : wd_ tp n p 1869636974) (hc : ¬ (D 135 58 = 0)) : lin_ tp n D p = Sum.inl (2, p) := by
  have hn := wd_n hw
  unfold lin_
  rw [if_neg (fun q => hn _ (by decide) q.1)]
  rw [if_neg (fun q => hn _ (by decide) q.1)]
  rw [if_neg (fun q => hn _ (by decide) q.1)]
  rw [if_neg (fun q => hn _ (by decide) q)]
  rw [if_neg (fun q => hn _ (by decide) q.1)]
  rw [if_neg (fun q => hn _ (by decide) q.1)]
  rw [if_neg (fun q => hn _ (by decide) q.1)]
  rw [if_neg (fun q => hc q.2)]
  rw [if_neg (fun q => hn _ (by decide) q.1)]
theorem lin_y8 {tp : Nat → Int} {n p : Nat} {D : sp_T} (hw : wd_ tp n p 1685217655) (hc : D 135 59 = 0) : lin_ tp n D p = sb_ (tol_ tp n 1685217655 0 999 p) fun r => Sum.inr (du_ (du_ D 135 59 1) 135 49 r.1, r.2) := by
  have hn := wd_n hw
  unfold lin_
  rw [if_neg (fun q => hn _ (by decide) q.1)]
  rw [if_neg (fun q => hn _ (by decide) q.1)]
  rw [if_neg (fun q => hn _ (by decide) q.1)]
  rw [if_neg (fun q => hn _ (by decide) q)]
  rw [if_neg (fun q => hn _ (by decide) q.1)]
  rw [if_neg (fun q => hn _ (by decide) q.1)]
  rw [if_neg (fun q => hn _ (by decide) q.1)]
  rw [if_neg (fun q => hn _ (by decide) q.1)]
  rw [if_pos ⟨hw, hc⟩]
theorem lin_n8 {tp : Nat → Int} {n p : Nat} {D : sp_T} (hw : wd_ tp n p 1685217655) (hc : ¬ (D 135 59 = 0)) : lin_ tp n D p = Sum.inl (2, p) := by
  have hn := wd_n hw
  unfold lin_
  rw [if_neg (fun q => hn _ (by decide) q.1)]
  rw [if_neg (fun q => hn _ (by decide) q.1)]
  rw [if_neg (fun q => hn _ (by decide) q.1)]
  rw [if_neg (fun q => hn _ (by decide) q)]
  rw [if_neg (fun q => hn _ (by decide) q.1)]
  rw [if_neg (fun q => hn _ (by decide) q.1)]
  rw [if_neg (fun q => hn _ (by decide) q.1)]
  rw [if_neg (fun q => hn _ (by decide) q.1)]
  rw [if_neg (fun q => hc q.2)]
theorem lin_o {tp : Nat → Int} {n p : Nat} {D : sp_T} (h : ∀ v : Int, (v = 495723310188 ∨ v = 478660552050 ∨ v = 123563833652072 ∨ v = 1868850291 ∨ v = 123581014175598 ∨ v = 129116991874419 ∨ v = 499917087592 ∨ v = 1869636974 ∨ v = 1685217655) → ¬ wd_ tp n p v) : lin_ tp n D p = Sum.inl (2, p) := by
  unfold lin_
  rw [if_neg (fun q => h _ (by decide) q.1)]
  rw [if_neg (fun q => h _ (by decide) q.1)]
  rw [if_neg (fun q => h _ (by decide) q.1)]
  rw [if_neg (fun q => h _ (by decide) q)]
  rw [if_neg (fun q => h _ (by decide) q.1)]
  rw [if_neg (fun q => h _ (by decide) q.1)]
  rw [if_neg (fun q => h _ (by decide) q.1)]
  rw [if_neg (fun q => h _ (by decide) q.1)]
  rw [if_neg (fun q => h _ (by decide) q.1)]

theorem xd_tea {t : Nat} (ht : t = 2 ∨ t = 34) {D : sp_T} {nS nO nR nP nU : Nat} (hV : DW_ D nS nO nR nP nU) {σ σz : am_S} (hX : XD_ t D σ) (hf : gx_ [t + 28, t + 29, t + 30] [] [0, 1, 5, 6, 7, 9, 11] σ σz) {u : Nat} {s : List (Int × Int)} {o : Nat} (ho9 : o < 2 ^ 21) (o12 : o.testBit 12 = decide (D 135 57 = 1)) (o13 : o.testBit 13 = decide (D 135 58 = 1)) (o14 : o.testBit 14 = decide (D 135 59 = 1)) (hz : σz.1 66 11 = ((o ||| 2 ^ 12 : Nat) : Int)) (hF : FO_ t u s σz) : XD_ t (tq_ (du_ D 135 57 1) u s) σz := by
  have hP : (D 135 46).toNat = nP := by rw [hV.hP]; rfl
  have hP6 := hV.P6
  have e17 : tq_ (du_ D 135 57 1) u s 135 17 = ((s.length : Nat) : Int) := tq_17 _ _ _
  have e20 : tq_ (du_ D 135 57 1) u s 135 20 = ((u : Nat) : Int) := tq_20 _ _ _
  have e138 : tq_ (du_ D 135 57 1) u s 138 = pe_ (D 138) 0 (s.map (·.1)) := tq_138 _ _ _
  have e139 : tq_ (du_ D 135 57 1) u s 139 = pe_ (D 139) 0 (s.map (·.2)) := tq_139 _ _ _
  have ef : ∀ k, k ≠ 17 → k ≠ 20 → k ≠ 57 → tq_ (du_ D 135 57 1) u s 135 k = D 135 k := fun k h1 h2 h3 => by rw [tq_f _ _ _ h1 h2, du_s, am_up_ne h3]
  have e57 : tq_ (du_ D 135 57 1) u s 135 57 = 1 := by rw [tq_f _ _ _ (by decide) (by decide), du_s, am_up_same]
  have ea : ∀ c, c ≠ 135 → c ≠ 138 → c ≠ 139 → tq_ (du_ D 135 57 1) u s c = D c := fun c h1 h2 h3 => by rw [tq_a _ _ _ h1 h2 h3, du_o h1]
  generalize tq_ (du_ D 135 57 1) u s = D' at e17 e20 e138 e139 ef e57 ea ⊢
  refine ⟨?_, ?_, ?_, ?_, ?_, ?_, ?_⟩
  · exact hX.1.cg (fun s hs => by rw [hf.1 (t + 1) (by simp) (by omega)]) (fun c h1 h2 => hf.2.2.1 _ (by simp) (by omega)) (ea _ (by decide) (by decide) (by decide)) (ef _ (by decide) (by decide) (by decide)) (ef _ (by decide) (by decide) (by decide)) (ef _ (by decide) (by decide) (by decide)) (ef _ (by decide) (by decide) (by decide))
  · exact hX.2.1.cg (fun a h1 h2 => hf.1 _ (by simp; omega) (by omega)) (fun a h1 h2 => ea _ (by omega) (by omega) (by omega)) (ef _ (by decide) (by decide) (by decide))
  · exact hX.2.2.1.cg (fun r hr => hf.1 _ (by simp; omega) (by omega)) (ea _ (by decide) (by decide) (by decide)) (ef _ (by decide) (by decide) (by decide))
  · exact hX.2.2.2.1.cg (by omega) (fun a h1 h2 => hf.1 _ (by simp; omega) (by omega)) (fun a h1 h2 => ea _ (by omega) (by omega) (by omega)) (ef _ (by decide) (by decide) (by decide))
  · exact hX.2.2.2.2.1.cg (hf.1 _ (by simp) (by omega)) (by rw [hf.1 (t + 1) (by simp) (by omega)]) (ef _ (by decide) (by decide) (by decide)) (ef _ (by decide) (by decide) (by decide)) (ef _ (by decide) (by decide) (by decide))
  · refine ⟨by rw [hF.1, e20], by rw [hF.2.1, e57, if_neg (by decide), e17], fun _ k hk => ?_⟩
    rw [e17, Int.toNat_natCast] at hk
    have h0 := hF.2.2 k hk
    have p1 := pe_at (D 138) (s.map (·.1)) 0 k (by rw [List.length_map]; exact hk)
    have p2 := pe_at (D 139) (s.map (·.2)) 0 k (by rw [List.length_map]; exact hk)
    rw [Nat.zero_add, List.getElem_map] at p1 p2
    rw [e138, e139, p1, p2]
    exact h0
  · exact ⟨o ||| 2 ^ 12, hz, Nat.or_lt_two_pow ho9 (by decide), by rw [Nat.testBit_or, Nat.testBit_two_pow, e57]; simp, by rw [Nat.testBit_or, Nat.testBit_two_pow, o13, ef 58 (by decide) (by decide) (by decide)]; simp, by rw [Nat.testBit_or, Nat.testBit_two_pow, o14, ef 59 (by decide) (by decide) (by decide)]; simp⟩

theorem x_readsLine {d : Nat} (hd : 64 ≤ d) {σ : am_S} {Q : Option am_V → am_S → Prop} {tp : Nat → Int} {n t p : Nat} (hC : RC_ tp n t p σ) {D : sp_T} {nS nO nR nP nU : Nat} (hV : DW_ D nS nO nR nP nU) (hX : XD_ t D σ) (hQ : LX_ tp n t (line_ tp n D p) σ Q) : am_Ev d 41 [am_R 66] σ Q := by
  obtain ⟨d, rfl⟩ : ∃ e, d = e + 1 := ⟨d - 1, by omega⟩
  have ht := hC.ht
  have hX7 : PT_ t := ht
  have hO : (D 135 44).toNat = nO := by rw [hV.hO]; rfl
  have hS : (D 135 43).toNat = nS := by rw [hV.hS]; rfl
  have hR : (D 135 45).toNat = nR := by rw [hV.hR]; rfl
  have hP : (D 135 46).toNat = nP := by rw [hV.hP]; rfl
  have hU : (D 135 47).toNat = nU := by rw [hV.hU]; rfl
  have vS := hV.hS
  have vO := hV.hO
  have vR := hV.hR
  have vP := hV.hP
  have vU := hV.hU
  refine ev_in (m := 41) (c := k_X4_readsLine) (L := [some (am_R 66)]) rfl rfl rfl rfl rfl rfl ?_
  refine ax_load (q := 1) rfl rfl rfl rfl rfl ?_
  refine ax_getf (q := 4) (v := am_I (kx_ tp n p)) rfl rfl (am_fg rfl hC.kx.2.1) ?_
  rw [line_eol] at hQ
  by_cases hk : kx_ tp n p = 0
  · refine ax_tsw (q := 80) rfl (by rw [hk]; rfl) ?_
    have hw : wd_ tp n p 495723310188 := (kx_w (i := 0) (by omega)).mp hk
    have h3 : tks_ tp n p ≠ 3 := fun e => by have e2 := kx_3.mpr e; omega
    refine ax_load (q := 81) rfl rfl rfl rfl rfl ?_
    refine ax_const (q := 82) (v := am_I 1) rfl rfl rfl ?_
    refine ax_callv (q := 85) rfl rfl rfl rfl rfl rfl ?_
    have hN : NM_ (t + 4) (t + 1) 1 (D 137) 0 nS σ := by have h := hX.1.1; rw [hS] at h; exact h
    refine x_named1 (by omega) hC h3 hN (fun hm σa hg_σa g0 => ?_) (fun hm e he σb hg_σb g0 => ?_) (fun hm he σ1 hg_σ1 v1 hN1 hC1 => ?_)
    · refine ax_if_eq (q := 88) (x := 101) rfl rfl (fun h85 => ?_) (fun h => absurd h (by omega))
      refine ax_const (q := 102) (v := am_I 0) rfl rfl rfl ?_
      refine ax_ret (r := some (am_I 0)) rfl ⟨rfl, Or.inl rfl⟩ ?_
      exact hQ.1 _ (by rw [lin_n0 hw (by omega)]; rfl) _ (gl_gx hg_σa (by intro x hx; simp at hx <;> omega) (by intro x hx; simp at hx <;> omega) (by intro x hx; simp at hx ⊢ <;> omega)) g0
    · rw [lin_y0 hw (by omega), hS, he] at hQ
      refine ax_if_eq (q := 88) (x := 101) rfl rfl (fun h85 => ?_) (fun h => absurd h (by omega))
      refine ax_const (q := 102) (v := am_I 0) rfl rfl rfl ?_
      refine ax_ret (r := some (am_I 0)) rfl ⟨rfl, Or.inl rfl⟩ ?_
      exact hQ.1 _ rfl _ (gl_gx hg_σb (by intro x hx; simp at hx <;> omega) (by intro x hx; simp at hx <;> omega) (by intro x hx; simp at hx ⊢ <;> omega)) g0
    · rw [lin_y0 hw (by omega), hS, he] at hQ
      simp only [sbr_] at hQ
      refine ax_if_eq (q := 88) (x := 101) rfl rfl (fun h => absurd h (by omega)) (fun h85 => ?_)
      refine ax_load (q := 89) rfl rfl rfl rfl rfl ?_
      refine ax_const (q := 91) (v := am_I 59) rfl rfl rfl ?_
      refine ax_callv (q := 94) rfl rfl rfl rfl rfl rfl ?_
      refine x_semi (by omega) hC1 (fun he σs hg_σs g0 => ?_) (fun he σz hg_σz hCz => ?_)
      · rw [eol_n he] at hQ
        have hf_σs : gx_ [t + 1] [t + 4] [0, 1, 5, 6, 7, 9] σ σs := gx_tr2 (gx_su hg_σ1 (by intro x hx; simp at hx ⊢ <;> omega) (by intro x hx; simp at hx ⊢ <;> omega) (by intro x hx; simp at hx ⊢ <;> omega)) (gx_su hg_σs (by intro x hx; simp at hx ⊢ <;> omega) (by intro x hx; simp at hx ⊢ <;> omega) (by intro x hx; simp at hx ⊢ <;> omega))
        refine ax_if_eq (q := 97) (x := 101) rfl rfl (fun h94 => ?_) (fun h => absurd h (by omega))
        refine ax_const (q := 102) (v := am_I 0) rfl rfl rfl ?_
        refine ax_ret (r := some (am_I 0)) rfl ⟨rfl, Or.inl rfl⟩ ?_
        exact hQ.1 _ rfl _ (gl_gx hf_σs (by intro x hx; simp at hx <;> omega) (by intro x hx; simp at hx <;> omega) (by intro x hx; simp at hx ⊢ <;> omega)) g0
      · rw [eol_y he] at hQ
        have hf_σz : gx_ [t + 1] [t + 4] [0, 1, 5, 6, 7, 9] σ σz := gx_tr2 (gx_su hg_σ1 (by intro x hx; simp at hx ⊢ <;> omega) (by intro x hx; simp at hx ⊢ <;> omega) (by intro x hx; simp at hx ⊢ <;> omega)) (gx_su hg_σz (by intro x hx; simp at hx ⊢ <;> omega) (by intro x hx; simp at hx ⊢ <;> omega) (by intro x hx; simp at hx ⊢ <;> omega))
        refine ax_if_eq (q := 97) (x := 101) rfl rfl (fun h => absurd h (by omega)) (fun h94 => ?_)
        refine ax_const (q := 98) (v := am_I 1) rfl rfl rfl ?_
        refine ax_goto (x := 102) rfl ?_
        refine ax_ret (r := some (am_I 1)) rfl ⟨rfl, Or.inr rfl⟩ ?_
        exact hQ.2 _ _ rfl _ (gl_gx hf_σz (by intro x hx; simp at hx <;> omega) (by intro x hx; simp at hx <;> omega) (by intro x hx; simp at hx ⊢ <;> omega)) hCz (xd_skill ht hV hX hf_σz hm (by rw [hg_σz.1 _ (by simp) (by omega)]; exact v1) (hN1.fr hg_σz (by simp) (by simp) (by omega) (by omega)))
  have hk0 := hk
  by_cases hk : kx_ tp n p = 1
  · refine ax_tsw (q := 103) rfl (by rw [hk]; rfl) ?_
    have hw : wd_ tp n p 478660552050 := (kx_w (i := 1) (by omega)).mp hk
    have h3 : tks_ tp n p ≠ 3 := fun e => by have e2 := kx_3.mpr e; omega
    refine ax_load (q := 104) rfl rfl rfl rfl rfl ?_
    refine ax_callv (q := 107) rfl rfl rfl rfl rfl rfl ?_
    refine x_readsOrder (by omega) hC h3 hV hX (fun hm σ' hg g0 => ?_) (fun hm => ?_)
    · refine ax_ret (r := some (am_I 0)) rfl ⟨rfl, Or.inl rfl⟩ ?_
      exact hQ.1 _ (by rw [lin_n1 hw (by omega)]; rfl) _ hg g0
    · rw [lin_y1 hw (by omega), hO, hS] at hQ
      exact ⟨fun e he σ' hg g0 => ax_ret (r := some (am_I 0)) rfl ⟨rfl, Or.inl rfl⟩ (hQ.1 e he σ' hg g0), fun D' p' he σ' hg hC' hX' => ax_ret (r := some (am_I 1)) rfl ⟨rfl, Or.inr rfl⟩ (hQ.2 D' p' he σ' hg hC' hX')⟩
  have hk1 := hk
  by_cases hk : kx_ tp n p = 6
  · refine ax_tsw (q := 108) rfl (by rw [hk]; rfl) ?_
    have hw : wd_ tp n p 123563833652072 := (kx_w (i := 6) (by omega)).mp hk
    have h3 : tks_ tp n p ≠ 3 := fun e => by have e2 := kx_3.mpr e; omega
    refine ax_load (q := 109) rfl rfl rfl rfl rfl ?_
    refine ax_const (q := 110) (v := am_I 3) rfl rfl rfl ?_
    refine ax_callv (q := 113) rfl rfl rfl rfl rfl rfl ?_
    have hN : NM_ (t + 6) (t + 1) 3 (D 137) 12 nR σ := by have h := hX.1.2.2.1; rw [hR] at h; exact h
    refine x_named3 (by omega) hC h3 hN (fun hm σa hg_σa g0 => ?_) (fun hm e he σb hg_σb g0 => ?_) (fun hm he σ1 hg_σ1 v1 hN1 hC1 => ?_)
    · refine ax_if_eq (q := 116) (x := 129) rfl rfl (fun h113 => ?_) (fun h => absurd h (by omega))
      refine ax_const (q := 130) (v := am_I 0) rfl rfl rfl ?_
      refine ax_ret (r := some (am_I 0)) rfl ⟨rfl, Or.inl rfl⟩ ?_
      exact hQ.1 _ (by rw [lin_n2 hw (by omega)]; rfl) _ (gl_gx hg_σa (by intro x hx; simp at hx <;> omega) (by intro x hx; simp at hx <;> omega) (by intro x hx; simp at hx ⊢ <;> omega)) g0
    · rw [lin_y2 hw (by omega), hR, he] at hQ
      refine ax_if_eq (q := 116) (x := 129) rfl rfl (fun h113 => ?_) (fun h => absurd h (by omega))
      refine ax_const (q := 130) (v := am_I 0) rfl rfl rfl ?_
      refine ax_ret (r := some (am_I 0)) rfl ⟨rfl, Or.inl rfl⟩ ?_
      exact hQ.1 _ rfl _ (gl_gx hg_σb (by intro x hx; simp at hx <;> omega) (by intro x hx; simp at hx <;> omega) (by intro x hx; simp at hx ⊢ <;> omega)) g0
    · rw [lin_y2 hw (by omega), hR, he] at hQ
      simp only [sbr_] at hQ
      refine ax_if_eq (q := 116) (x := 129) rfl rfl (fun h => absurd h (by omega)) (fun h113 => ?_)
      refine ax_load (q := 117) rfl rfl rfl rfl rfl ?_
      refine ax_const (q := 119) (v := am_I 59) rfl rfl rfl ?_
      refine ax_callv (q := 122) rfl rfl rfl rfl rfl rfl ?_
      refine x_semi (by omega) hC1 (fun he σs hg_σs g0 => ?_) (fun he σz hg_σz hCz => ?_)
      · rw [eol_n he] at hQ
        have hf_σs : gx_ [t + 1] [t + 6] [0, 1, 5, 6, 7, 9] σ σs := gx_tr2 (gx_su hg_σ1 (by intro x hx; simp at hx ⊢ <;> omega) (by intro x hx; simp at hx ⊢ <;> omega) (by intro x hx; simp at hx ⊢ <;> omega)) (gx_su hg_σs (by intro x hx; simp at hx ⊢ <;> omega) (by intro x hx; simp at hx ⊢ <;> omega) (by intro x hx; simp at hx ⊢ <;> omega))
        refine ax_if_eq (q := 125) (x := 129) rfl rfl (fun h122 => ?_) (fun h => absurd h (by omega))
        refine ax_const (q := 130) (v := am_I 0) rfl rfl rfl ?_
        refine ax_ret (r := some (am_I 0)) rfl ⟨rfl, Or.inl rfl⟩ ?_
        exact hQ.1 _ rfl _ (gl_gx hf_σs (by intro x hx; simp at hx <;> omega) (by intro x hx; simp at hx <;> omega) (by intro x hx; simp at hx ⊢ <;> omega)) g0
      · rw [eol_y he] at hQ
        have hf_σz : gx_ [t + 1] [t + 6] [0, 1, 5, 6, 7, 9] σ σz := gx_tr2 (gx_su hg_σ1 (by intro x hx; simp at hx ⊢ <;> omega) (by intro x hx; simp at hx ⊢ <;> omega) (by intro x hx; simp at hx ⊢ <;> omega)) (gx_su hg_σz (by intro x hx; simp at hx ⊢ <;> omega) (by intro x hx; simp at hx ⊢ <;> omega) (by intro x hx; simp at hx ⊢ <;> omega))
        refine ax_if_eq (q := 125) (x := 129) rfl rfl (fun h => absurd h (by omega)) (fun h122 => ?_)
        refine ax_const (q := 126) (v := am_I 1) rfl rfl rfl ?_
        refine ax_goto (x := 130) rfl ?_
        refine ax_ret (r := some (am_I 1)) rfl ⟨rfl, Or.inr rfl⟩ ?_
        exact hQ.2 _ _ rfl _ (gl_gx hf_σz (by intro x hx; simp at hx <;> omega) (by intro x hx; simp at hx <;> omega) (by intro x hx; simp at hx ⊢ <;> omega)) hCz (xd_par ht hV hX hf_σz hm (by rw [hg_σz.1 _ (by simp) (by omega)]; exact v1) (hN1.fr hg_σz (by simp) (by simp) (by omega) (by omega)))
  have hk6 := hk
  by_cases hk : kx_ tp n p = 7
  · refine ax_tsw (q := 131) rfl (by rw [hk]; rfl) ?_
    have hw : wd_ tp n p 1868850291 := (kx_w (i := 7) (by omega)).mp hk
    have h3 : tks_ tp n p ≠ 3 := fun e => by have e2 := kx_3.mpr e; omega
    refine ax_load (q := 132) rfl rfl rfl rfl rfl ?_
    refine ax_callv (q := 135) rfl rfl rfl rfl rfl rfl ?_
    refine x_oddsL (by omega) hC h3 hV hX ?_
    rw [lin_y3 hw, hO, hR] at hQ
    exact ⟨fun e he σ' hg g0 => ax_ret (r := some (am_I 0)) rfl ⟨rfl, Or.inl rfl⟩ (hQ.1 e he σ' hg g0), fun D' p' he σ' hg hC' hX' => ax_ret (r := some (am_I 1)) rfl ⟨rfl, Or.inr rfl⟩ (hQ.2 D' p' he σ' hg hC' hX')⟩
  have hk7 := hk
  by_cases hk : kx_ tp n p = 8
  · refine ax_tsw (q := 136) rfl (by rw [hk]; rfl) ?_
    have hw : wd_ tp n p 123581014175598 := (kx_w (i := 8) (by omega)).mp hk
    have h3 : tks_ tp n p ≠ 3 := fun e => by have e2 := kx_3.mpr e; omega
    refine ax_load (q := 137) rfl rfl rfl rfl rfl ?_
    refine ax_callv (q := 140) rfl rfl rfl rfl rfl rfl ?_
    refine x_readsPerson (by omega) hC h3 hV hX (fun hm σ' hg g0 => ?_) (fun hm => ?_)
    · refine ax_ret (r := some (am_I 0)) rfl ⟨rfl, Or.inl rfl⟩ ?_
      exact hQ.1 _ (by rw [lin_n4 hw (by omega)]; rfl) _ hg g0
    · rw [lin_y4 hw (by omega), hP, hS, hR] at hQ
      exact ⟨fun e he σ' hg g0 => ax_ret (r := some (am_I 0)) rfl ⟨rfl, Or.inl rfl⟩ (hQ.1 e he σ' hg g0), fun D' p' he σ' hg hC' hX' => ax_ret (r := some (am_I 1)) rfl ⟨rfl, Or.inr rfl⟩ (hQ.2 D' p' he σ' hg hC' hX')⟩
  have hk8 := hk
  by_cases hk : kx_ tp n p = 11
  · refine ax_tsw (q := 141) rfl (by rw [hk]; rfl) ?_
    have hw : wd_ tp n p 129116991874419 := (kx_w (i := 11) (by omega)).mp hk
    have h3 : tks_ tp n p ≠ 3 := fun e => by have e2 := kx_3.mpr e; omega
    refine ax_load (q := 142) rfl rfl rfl rfl rfl ?_
    refine ax_callv (q := 145) rfl rfl rfl rfl rfl rfl ?_
    refine x_readsUndoes (by omega) hC h3 hV hX (fun hm σ' hg g0 => ?_) (fun hm => ?_)
    · refine ax_ret (r := some (am_I 0)) rfl ⟨rfl, Or.inl rfl⟩ ?_
      exact hQ.1 _ (by rw [lin_n5 hw (by omega)]; rfl) _ hg g0
    · rw [lin_y5 hw (by omega), hO, hU] at hQ
      exact ⟨fun e he σ' hg g0 => ax_ret (r := some (am_I 0)) rfl ⟨rfl, Or.inl rfl⟩ (hQ.1 e he σ' hg g0), fun D' p' he σ' hg hC' hX' => ax_ret (r := some (am_I 1)) rfl ⟨rfl, Or.inr rfl⟩ (hQ.2 D' p' he σ' hg hC' hX')⟩
  have hk11 := hk
  by_cases hk : kx_ tp n p = 12
  · refine ax_tsw (q := 146) rfl (by rw [hk]; rfl) ?_
    have hw : wd_ tp n p 499917087592 := (kx_w (i := 12) (by omega)).mp hk
    have h3 : tks_ tp n p ≠ 3 := fun e => by have e2 := kx_3.mpr e; omega
    refine ax_load (q := 147) rfl rfl rfl rfl rfl ?_
    refine ax_callv (q := 150) rfl rfl rfl rfl rfl rfl ?_
    obtain ⟨o, ho, ho9, o12, o13, o14⟩ := hX.2.2.2.2.2.2
    refine x_takesOnce (i := 12) (by omega) hC (by decide) hk ho ho9 (fun hb σ1 hg_σ1 gJ g0 => ?_) (fun hb σ2 hg_σ2 h11 hC2 => ?_)
    · rw [lin_n6 hw (by rw [o12] at hb; have := of_decide_eq_true hb; omega)] at hQ
      refine ax_if_eq (q := 153) (x := 174) rfl rfl (fun h150 => ?_) (fun h => absurd h (by omega))
      refine ax_const (q := 175) (v := am_I 0) rfl rfl rfl ?_
      refine ax_ret (r := some (am_I 0)) rfl ⟨rfl, Or.inl rfl⟩ ?_
      exact hQ.1 _ rfl _ (gl_gx hg_σ1 (by intro x hx; simp at hx <;> omega) (by intro x hx; simp at hx <;> omega) (by intro x hx; simp at hx ⊢ <;> omega)) g0
    · have h57 : D 135 57 = 0 := by rw [o12] at hb; have h1 := of_decide_eq_false hb; rcases hV.dv.t1 with q | q; exact q; exact absurd q h1
      rw [lin_y6 hw h57, tea_eq tp hC.pn] at hQ
      have hxt := hX.2.2.2.2.2.1
      have h20 := hV.dv.t0 h57
      have hF2 : FO_ t 0 [] σ2 := ⟨by rw [hg_σ2.1 _ (by simp) (by omega), hxt.1, h20]; rfl, by rw [hg_σ2.1 _ (by simp) (by omega), hxt.2.1, if_pos h57]; rfl, fun k hk => absurd hk (by simp)⟩
      refine ax_if_eq (q := 153) (x := 174) rfl rfl (fun h => absurd h (by omega)) (fun h150 => ?_)
      refine ax_load (q := 154) rfl rfl rfl rfl rfl ?_
      refine ax_const (q := 155) (v := am_I 0) rfl rfl rfl ?_
      refine ax_callv (q := 158) rfl rfl rfl rfl rfl rfl ?_
      refine (cx_all tp n t 7 (by omega)).2 d σ2 (nxp_ tp n p) 0 [] _ (by omega) hC2 hF2 (by simp) (by omega) (fun e he σe hg_σe g0 => ?_) (fun p2 u2 s2 he σ4 hg_σ4 hC4 hF4 => ?_)
      · rw [he] at hQ
        simp only [sbl_] at hQ
        have hf_σe : gx_ [t + 28, t + 29, t + 30] [] [0, 1, 5, 6, 7, 9, 11] σ σe := gx_tr2 (gx_su hg_σ2 (by intro x hx; simp at hx ⊢ <;> omega) (by intro x hx; simp at hx ⊢ <;> omega) (by intro x hx; simp at hx ⊢ <;> omega)) (gx_su hg_σe (by intro x hx; simp at hx ⊢ <;> omega) (by intro x hx; simp at hx ⊢ <;> omega) (by intro x hx; simp at hx ⊢ <;> omega))
        refine ax_if_eq (q := 161) (x := 174) rfl rfl (fun h158 => ?_) (fun h => absurd h (by omega))
        refine ax_const (q := 175) (v := am_I 0) rfl rfl rfl ?_
        refine ax_ret (r := some (am_I 0)) rfl ⟨rfl, Or.inl rfl⟩ ?_
        exact hQ.1 _ rfl _ (gl_gx hf_σe (by intro x hx; simp at hx <;> omega) (by intro x hx; simp at hx <;> omega) (by intro x hx; simp at hx ⊢ <;> omega)) g0
      · rw [he] at hQ
        simp only [sbr_] at hQ
        have hf_σ4 : gx_ [t + 28, t + 29, t + 30] [] [0, 1, 5, 6, 7, 9, 11] σ σ4 := gx_tr2 (gx_su hg_σ2 (by intro x hx; simp at hx ⊢ <;> omega) (by intro x hx; simp at hx ⊢ <;> omega) (by intro x hx; simp at hx ⊢ <;> omega)) (gx_su hg_σ4 (by intro x hx; simp at hx ⊢ <;> omega) (by intro x hx; simp at hx ⊢ <;> omega) (by intro x hx; simp at hx ⊢ <;> omega))
        refine ax_if_eq (q := 161) (x := 174) rfl rfl (fun h => absurd h (by omega)) (fun h158 => ?_)
        refine ax_load (q := 162) rfl rfl rfl rfl rfl ?_
        refine ax_const (q := 164) (v := am_I 59) rfl rfl rfl ?_
        refine ax_callv (q := 167) rfl rfl rfl rfl rfl rfl ?_
        refine x_semi (by omega) hC4 (fun he σs hg_σs g0 => ?_) (fun he σz hg_σz hCz => ?_)
        · rw [eol_n he] at hQ
          have hf_σs := gx_tr2 hf_σ4 (gx_su hg_σs (by intro x hx; simp at hx ⊢ <;> omega) (by intro x hx; simp at hx ⊢ <;> omega) (by intro x hx; simp at hx ⊢ <;> omega))
          refine ax_if_eq (q := 170) (x := 174) rfl rfl (fun h167 => ?_) (fun h => absurd h (by omega))
          refine ax_const (q := 175) (v := am_I 0) rfl rfl rfl ?_
          refine ax_ret (r := some (am_I 0)) rfl ⟨rfl, Or.inl rfl⟩ ?_
          exact hQ.1 _ rfl _ (gl_gx hf_σs (by intro x hx; simp at hx <;> omega) (by intro x hx; simp at hx <;> omega) (by intro x hx; simp at hx ⊢ <;> omega)) g0
        · rw [eol_y he] at hQ
          have hf_σz := gx_tr2 hf_σ4 (gx_su hg_σz (by intro x hx; simp at hx ⊢ <;> omega) (by intro x hx; simp at hx ⊢ <;> omega) (by intro x hx; simp at hx ⊢ <;> omega))
          refine ax_if_eq (q := 170) (x := 174) rfl rfl (fun h => absurd h (by omega)) (fun h167 => ?_)
          refine ax_const (q := 171) (v := am_I 1) rfl rfl rfl ?_
          refine ax_goto (x := 175) rfl ?_
          refine ax_ret (r := some (am_I 1)) rfl ⟨rfl, Or.inr rfl⟩ ?_
          exact hQ.2 _ _ rfl _ (gl_gx hf_σz (by intro x hx; simp at hx <;> omega) (by intro x hx; simp at hx <;> omega) (by intro x hx; simp at hx ⊢ <;> omega)) hCz (xd_tea ht hV hX hf_σz ho9 o12 o13 o14 (by rw [hg_σz.2.1 11 (by simp), hg_σ4.2.1 11 (by simp)]; exact h11) (hF4.fr hg_σz ht (by intro a ha; cases ha)))
  have hk12 := hk
  by_cases hk : kx_ tp n p = 13
  · refine ax_tsw (q := 176) rfl (by rw [hk]; rfl) ?_
    have hw : wd_ tp n p 1869636974 := (kx_w (i := 13) (by omega)).mp hk
    have h3 : tks_ tp n p ≠ 3 := fun e => by have e2 := kx_3.mpr e; omega
    refine ax_load (q := 177) rfl rfl rfl rfl rfl ?_
    refine ax_callv (q := 180) rfl rfl rfl rfl rfl rfl ?_
    refine x_openL (by omega) hC hk hV hX (fun hm σ' hg g0 => ?_) (fun hm => ?_)
    · refine ax_ret (r := some (am_I 0)) rfl ⟨rfl, Or.inl rfl⟩ ?_
      exact hQ.1 _ (by rw [lin_n7 hw (by omega)]; rfl) _ hg g0
    · have hbd := hV.o1
      rw [lin_y7 hw (by omega), tol_y (i := 13) (w := 1869636974) rfl (by omega) hk] at hQ
      exact ⟨fun e he σ' hg g0 => ax_ret (r := some (am_I 0)) rfl ⟨rfl, Or.inl rfl⟩ (hQ.1 e he σ' hg g0), fun D' p' he σ' hg hC' hX' => ax_ret (r := some (am_I 1)) rfl ⟨rfl, Or.inr rfl⟩ (hQ.2 D' p' he σ' hg hC' hX')⟩
  have hk13 := hk
  by_cases hk : kx_ tp n p = 14
  · refine ax_tsw (q := 181) rfl (by rw [hk]; rfl) ?_
    have hw : wd_ tp n p 1685217655 := (kx_w (i := 14) (by omega)).mp hk
    have h3 : tks_ tp n p ≠ 3 := fun e => by have e2 := kx_3.mpr e; omega
    refine ax_load (q := 182) rfl rfl rfl rfl rfl ?_
    refine ax_callv (q := 185) rfl rfl rfl rfl rfl rfl ?_
    refine x_drawL (by omega) hC hk hV hX (fun hm σ' hg g0 => ?_) (fun hm => ?_)
    · refine ax_ret (r := some (am_I 0)) rfl ⟨rfl, Or.inl rfl⟩ ?_
      exact hQ.1 _ (by rw [lin_n8 hw (by omega)]; rfl) _ hg g0
    · have hbd := hV.d1
      rw [lin_y8 hw (by omega), tol_y (i := 14) (w := 1685217655) rfl (by omega) hk] at hQ
      exact ⟨fun e he σ' hg g0 => ax_ret (r := some (am_I 0)) rfl ⟨rfl, Or.inl rfl⟩ (hQ.1 e he σ' hg g0), fun D' p' he σ' hg hC' hX' => ax_ret (r := some (am_I 1)) rfl ⟨rfl, Or.inr rfl⟩ (hQ.2 D' p' he σ' hg hC' hX')⟩
  have hk14 := hk
  refine ax_tsw (q := 186) rfl ?_ ?_
  · have hz : kx_ tp n p = 2 ∨ kx_ tp n p = 3 ∨ kx_ tp n p = 4 ∨ kx_ tp n p = 5 ∨ kx_ tp n p = 9 ∨ kx_ tp n p = 10 ∨ (kx_ tp n p < 0 ∨ 14 < kx_ tp n p) := by omega
    rcases hz with hz | hz | hz | hz | hz | hz | hz
    · rw [hz]; rfl
    · rw [hz]; rfl
    · rw [hz]; rfl
    · rw [hz]; rfl
    · rw [hz]; rfl
    · rw [hz]; rfl
    · unfold am_tsw
      rw [if_pos hz]
      rfl
  refine ax_load (q := 187) rfl rfl rfl rfl rfl ?_
  refine ax_callv (q := 190) rfl rfl rfl rfl rfl rfl ?_
  refine x_misplaced (by omega) hC (fun σm hg_σm gJ g0 => ?_)
  refine ax_ret (r := some (am_I 0)) rfl ⟨rfl, Or.inl rfl⟩ ?_
  have hlo : lin_ tp n D p = Sum.inl (2, p) := lin_o (fun v hv q => by
    rcases hv with rfl | rfl | rfl | rfl | rfl | rfl | rfl | rfl | rfl
    · exact hk0 ((kx_w (i := 0) (by omega)).mpr q)
    · exact hk1 ((kx_w (i := 1) (by omega)).mpr q)
    · exact hk6 ((kx_w (i := 6) (by omega)).mpr q)
    · exact hk7 ((kx_w (i := 7) (by omega)).mpr q)
    · exact hk8 ((kx_w (i := 8) (by omega)).mpr q)
    · exact hk11 ((kx_w (i := 11) (by omega)).mpr q)
    · exact hk12 ((kx_w (i := 12) (by omega)).mpr q)
    · exact hk13 ((kx_w (i := 13) (by omega)).mpr q)
    · exact hk14 ((kx_w (i := 14) (by omega)).mpr q))
  exact hQ.1 _ (by rw [hlo]; rfl) _ (gl_gx hg_σm (by intro x hx; simp at hx <;> omega) (by intro x hx; simp at hx <;> omega) (by intro x hx; simp at hx ⊢ <;> omega)) g0

