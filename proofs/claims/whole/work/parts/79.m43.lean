/-! the text read whole -/
def all_ (tp : Nat → Int) (n : Nat) : Nat → sp_T → Nat → sp_L
  | 0, _, p => Sum.inl (2, p)
  | k + 1, D, p => if tks_ tp n p = 0 then Sum.inr (D, p) else sb_ (line_ tp n D p) fun r => all_ tp n k r.1 r.2
def rall_ (tp : Nat → Int) (t : Nat) (D : sp_T) : sp_L := all_ tp t (t + 1) D (skp_ tp t t 0)
def sn2_ (σ : am_S) : sp_T := am_up σ.1 137 (σ.2.1 137)
theorem RS_.sn (σ : am_S) : RS_ (sn2_ σ) σ := ⟨fun a ha => by unfold sn2_; rw [am_up_ne (by rintro rfl; revert ha; decide)], fun k hk => by unfold sn2_; rw [am_up_ne (by decide)], by unfold sn2_; rw [am_up_same]⟩
/-- nothing told -/
def Z0_ (D : sp_T) : Prop := D 135 43 = 0 ∧ D 135 44 = 0 ∧ D 135 45 = 0 ∧ D 135 46 = 0 ∧ D 135 47 = 0 ∧ D 135 48 = 40 ∧ D 135 49 = 0 ∧ D 135 57 = 0 ∧ D 135 58 = 0 ∧ D 135 59 = 0 ∧ D 135 20 = 0 ∧ D 135 17 = 0
theorem Z0_.dw {D : sp_T} (h : Z0_ D) : DW_ D 0 0 0 0 0 := by
  obtain ⟨h1, h2, h3, h4, h5, h6, h7, h8, h9, h10, h11, h12⟩ := h
  exact ⟨h1, h2, h3, h4, h5, by decide, by decide, by decide, by decide, by decide, fun o ho => absurd ho (by omega), fun o ho => absurd ho (by omega), fun o ho => absurd ho (by omega), ⟨fun _ => h11, Or.inl h8, ⟨0, h11, by decide⟩, fun q => by rw [h8] at q; cases q⟩, by omega, by omega, Or.inl h9, Or.inl h10⟩
theorem all_in {tp : Nat → Int} {n : Nat} : ∀ (k : Nat) (D : sp_T) (p : Nat) {r : sp_T × Nat}, all_ tp n k D p = Sum.inr r → p ≤ n → (∃ mS mO mR mP mU, DW_ D mS mO mR mP mU) → ∃ mS mO mR mP mU, DW_ r.1 mS mO mR mP mU := by
  intro k
  induction k with
  | zero => intro D p r h; cases h
  | succ k ih =>
    intro D p r h hp hV
    rw [all_] at h
    split at h
    · injection h with h; rw [← h]; exact hV
    · obtain ⟨a, e1, e2⟩ := sb_in h
      obtain ⟨_, _, _, _, _, hV⟩ := hV
      have := line_in hV hp e1
      exact ih _ _ e2 this.2.1 this.2.2
theorem l_readAll {d : Nat} (hd : 9 ≤ d) {tp : Nat → Int} {n : Nat} {Q : Option am_V → am_S → Prop} {σ0 : am_S} : ∀ (k p : Nat) (D : sp_T) (σ : am_S), PS_ tp n p σ → σ.1 135 2 = 0 → RS_ D σ → (∃ mS mO mR mP mU, DW_ D mS mO mR mP mU) → RF_ σ0 σ → n < p + k →
    (hN : ∀ e, all_ tp n k D p = Sum.inl e → ∀ σ', RF_ σ0 σ' → 0 < e.1 → FT_ tp n e σ' → Q none σ') →
    (hY : ∀ D' p', all_ tp n k D p = Sum.inr (D', p') → ∀ σ', RF_ σ0 σ' → σ'.1 135 2 = 0 → PS_ tp n p' σ' → RS_ D' σ' → Q none σ') →
    aW d 4 k_X9_readAll Q 93 [some (am_R 135)] [] σ := by
  intro k
  induction k with
  | zero =>
    intro p D σ hP h02 hR hV hf hk hN hY
    have := hP.2.2.2.2.1
    exact absurd hk (by omega)
  | succ k ih =>
    intro p D σ hP h02 hR hV hf hk hN hY
    obtain ⟨mS, mO, mR, mP, mU, hV⟩ := hV
    have k6 := hP.1.2.1
    have hp := hP.2.2.2.2.1

    refine ax_load (q := 94) rfl rfl rfl rfl rfl ?_
    refine ax_getf (q := 97) (v := am_I 0) rfl rfl (am_fg rfl h02) ?_
    refine ax_if_ne (q := 100) (x := 114) rfl rfl (fun h => absurd h (by omega)) (fun h97 => ?_)
    refine ax_load (q := 101) rfl rfl rfl rfl rfl ?_
    refine ax_getf (q := 104) (v := am_I (tks_ tp n p)) rfl rfl (am_fg rfl k6) ?_
    refine ax_if_eq (q := 107) (x := 114) rfl rfl (fun h104 => ?_) (fun h104 => ?_)
    · refine ax_ret (r := none) rfl rfl ?_
      exact hY D p (by rw [all_]; exact if_pos h104) σ hf h02 hP hR
    · refine ax_load (q := 108) rfl rfl rfl rfl rfl ?_
      refine ax_callv (q := 111) rfl rfl rfl rfl rfl rfl ?_
      refine r_readLine (by omega) hV.dv hP h02 hR ⟨fun e he σ1 hf1 h0 hF => ?_, fun D1 p1 he σ1 hf1 h21 hP1 hR1 => ?_⟩
      · have hbad := FT_pos hF h0
        have hres : all_ tp n (k + 1) D p = Sum.inl e := by rw [all_, if_neg h104]; exact sb_l he
        refine ax_goto (x := 93) rfl ?_
        refine ax_load (q := 94) rfl rfl rfl rfl rfl ?_
        refine ax_getf (q := 97) (v := am_I (σ1.1 135 2)) rfl rfl (rfl) ?_
        refine ax_if_ne (q := 100) (x := 114) rfl rfl (fun h97 => ?_) (fun h => absurd h (ne_p hbad))
        refine ax_ret (r := none) rfl rfl ?_
        exact hN e hres _ (RF_.tr hf hf1 (by decide) (by decide) (by decide)) h0 hF
      · have hst : all_ tp n (k + 1) D p = all_ tp n k D1 p1 := by rw [all_, if_neg h104]; exact sb_r he
        rw [hst] at hN hY
        have hli := line_in hV hp he
        dsimp only at hli
        refine ax_goto (x := 93) rfl ?_
        exact ih p1 D1 σ1 hP1 h21 hR1 hli.2.2 (RF_.tr hf hf1 (by decide) (by decide) (by decide)) (by omega) hN hY

theorem nm5_ {σ : am_S} {a k : Nat} {H : Nat → Int} {z : Int} : am_sI (am_sI σ a H) a (am_up ((am_sI σ a H).1 a) k z) = am_sI σ a (am_up H k z) := by rw [sI_at, sI_sI]
theorem nm5p_ {σ : am_S} {a b x k : Nat} {v : am_V} {H : Nat → Int} {z : Int} (h : am_fput (am_sI σ a H) b x v = some (am_sI (am_sI σ a H) a (am_up ((am_sI σ a H).1 a) k z))) : am_fput (am_sI σ a H) b x v = some (am_sI σ a (am_up H k z)) := by rw [h, nm5_]
theorem nm5z_ {σ : am_S} {a b x k : Nat} {H : Nat → Int} {y z : Int} (h : am_fputZ (am_sI σ a H) b x y = some (am_sI (am_sI σ a H) a (am_up ((am_sI σ a H).1 a) k z))) : am_fputZ (am_sI σ a H) b x y = some (am_sI σ a (am_up H k z)) := by rw [h, nm5_]
theorem nm50_ {σ : am_S} {a x k : Nat} {v : am_V} {z : Int} (h : am_fput σ a x v = some (am_sI σ a (am_up (σ.1 a) k z))) : am_fput σ a x v = some (am_sI σ a (am_up (σ.1 a) k z)) := h
theorem nm50z_ {σ : am_S} {a x k : Nat} {y z : Int} (h : am_fputZ σ a x y = some (am_sI σ a (am_up (σ.1 a) k z))) : am_fputZ σ a x y = some (am_sI σ a (am_up (σ.1 a) k z)) := h
theorem fh_up {σ : am_S} {F : List Nat} {H : Nat → Int} {j : Nat} {z : Int} (h : ∀ k, k ∉ F → H k = σ.1 135 k) (hj : j ∈ F) : ∀ k, k ∉ F → am_up H j z k = σ.1 135 k := fun k hk => by rw [am_up_ne (fun q => hk (by rw [q]; exact hj))]; exact h k hk
theorem fp_h5 {σ : am_S} {F : List Nat} {H : Nat → Int} (h : ∀ k, k ∉ F → H k = σ.1 135 k) : fp_ [] F [] σ (am_sI σ 135 H) := ⟨fun a _ h5 => sI_ne h5, fun k hk => by rw [sI_at]; exact h k hk, fun _ _ _ => rfl, fun _ _ => rfl, rfl⟩

/-- what is told before a text is read -/
def dz_ (σ : am_S) : sp_T := fun a => if a = 135 then (fun k => if k = 48 then 40 else 0) else if a = 137 then σ.2.1 137 else if 138 ≤ a ∧ a ≤ 161 then σ.1 a else fun _ => 0
theorem dz_z (σ : am_S) : Z0_ (dz_ σ) := ⟨rfl, rfl, rfl, rfl, rfl, rfl, rfl, rfl, rfl, rfl, rfl, rfl⟩
theorem dz_cg {σ σ' : am_S} (h1 : ∀ a, 138 ≤ a → a ≤ 161 → σ'.1 a = σ.1 a) (h2 : σ'.2.1 137 = σ.2.1 137) : dz_ σ' = dz_ σ := by
  funext a
  unfold dz_
  by_cases e : a = 135
  · rw [if_pos e, if_pos e]
  · rw [if_neg e, if_neg e]
    by_cases e2 : a = 137
    · rw [if_pos e2, if_pos e2, h2]
    · rw [if_neg e2, if_neg e2]
      by_cases e3 : 138 ≤ a ∧ a ≤ 161
      · rw [if_pos e3, if_pos e3, h1 a e3.1 e3.2]
      · rw [if_neg e3, if_neg e3]
theorem r_readAll {d : Nat} (hd : 10 ≤ d) {σ : am_S} {tp : Nat → Int} (h136 : σ.1 136 = tp) {t : Nat} (ht : σ.1 135 1 = (t : Int)) (ht9 : t ≤ 1600) {Q : Option am_V → am_S → Prop} (hQ : ∀ D, D = dz_ σ → (∀ e, rall_ tp t D = Sum.inl e → ∀ σ', fp_ rfA_ (1 :: 5 :: rfF_) [137] σ σ' → σ'.1 135 1 = 0 → 0 < e.1 → FT_ tp t e σ' → Q none σ') ∧ (∀ D' p', rall_ tp t D = Sum.inr (D', p') → ∀ σ', fp_ rfA_ (1 :: 5 :: rfF_) [137] σ σ' → σ'.1 135 1 = 0 → σ'.1 135 2 = 0 → σ'.1 135 3 = -1 → RS_ D' σ' → (∃ mS mO mR mP mU, DW_ D' mS mO mR mP mU) → Q none σ')) : am_Ev d 181 [am_R 135] σ Q := by
  obtain ⟨d, rfl⟩ : ∃ e, d = e + 1 := ⟨d - 1, by omega⟩
  refine ev_in (m := 181) (c := k_X9_readAll) (L := [some (am_R 135)]) rfl rfl rfl rfl rfl rfl ?_
  refine ax_load (q := 1) rfl rfl rfl rfl rfl ?_
  refine ax_load (q := 2) rfl rfl rfl rfl rfl ?_
  refine ax_getf (q := 5) (v := am_I ((t : Nat) : Int)) rfl rfl (am_fg rfl ht) ?_
  refine ax_putf (q := 8) rfl rfl (nm50_ (k := 5) (z := ((t : Nat) : Int)) rfl) ?_
  refine ax_load (q := 9) rfl rfl rfl rfl rfl ?_
  refine ax_const (q := 10) (v := am_I 0) rfl rfl rfl ?_
  refine ax_putf (q := 13) rfl rfl (nm5p_ (k := 1) (z := 0) rfl) ?_
  refine ax_load (q := 14) rfl rfl rfl rfl rfl ?_
  refine ax_const (q := 15) (v := am_I 0) rfl rfl rfl ?_
  refine ax_putf (q := 18) rfl rfl (nm5p_ (k := 4) (z := 0) rfl) ?_
  refine ax_load (q := 19) rfl rfl rfl rfl rfl ?_
  refine ax_const (q := 20) (v := am_I 0) rfl rfl rfl ?_
  refine ax_putf (q := 23) rfl rfl (nm5p_ (k := 2) (z := 0) rfl) ?_
  refine ax_load (q := 24) rfl rfl rfl rfl rfl ?_
  refine ax_const (q := 25) (v := am_I (-1)) rfl rfl rfl ?_
  refine ax_putf (q := 28) rfl rfl (nm5p_ (k := 3) (z := (-1)) rfl) ?_
  refine ax_load (q := 29) rfl rfl rfl rfl rfl ?_
  refine ax_const (q := 30) (v := am_I 0) rfl rfl rfl ?_
  refine ax_putf (q := 33) rfl rfl (nm5p_ (k := 43) (z := 0) rfl) ?_
  refine ax_load (q := 34) rfl rfl rfl rfl rfl ?_
  refine ax_const (q := 35) (v := am_I 0) rfl rfl rfl ?_
  refine ax_putf (q := 38) rfl rfl (nm5p_ (k := 44) (z := 0) rfl) ?_
  refine ax_load (q := 39) rfl rfl rfl rfl rfl ?_
  refine ax_const (q := 40) (v := am_I 0) rfl rfl rfl ?_
  refine ax_putf (q := 43) rfl rfl (nm5p_ (k := 45) (z := 0) rfl) ?_
  refine ax_load (q := 44) rfl rfl rfl rfl rfl ?_
  refine ax_const (q := 45) (v := am_I 0) rfl rfl rfl ?_
  refine ax_putf (q := 48) rfl rfl (nm5p_ (k := 46) (z := 0) rfl) ?_
  refine ax_load (q := 49) rfl rfl rfl rfl rfl ?_
  refine ax_const (q := 50) (v := am_I 0) rfl rfl rfl ?_
  refine ax_putf (q := 53) rfl rfl (nm5p_ (k := 47) (z := 0) rfl) ?_
  refine ax_load (q := 54) rfl rfl rfl rfl rfl ?_
  refine ax_const (q := 56) (v := am_I 40) rfl rfl rfl ?_
  refine ax_putf (q := 59) rfl rfl (nm5p_ (k := 48) (z := 40) rfl) ?_
  refine ax_load (q := 60) rfl rfl rfl rfl rfl ?_
  refine ax_const (q := 61) (v := am_I 0) rfl rfl rfl ?_
  refine ax_putf (q := 64) rfl rfl (nm5p_ (k := 49) (z := 0) rfl) ?_
  refine ax_load (q := 65) rfl rfl rfl rfl rfl ?_
  refine ax_const (q := 66) (v := am_I 0) rfl rfl rfl ?_
  refine ax_putz (q := 69) rfl rfl (nm5z_ (k := 57) (z := 0) rfl) (Or.inl rfl) ?_
  refine ax_load (q := 70) rfl rfl rfl rfl rfl ?_
  refine ax_const (q := 71) (v := am_I 0) rfl rfl rfl ?_
  refine ax_putz (q := 74) rfl rfl (nm5z_ (k := 58) (z := 0) rfl) (Or.inl rfl) ?_
  refine ax_load (q := 75) rfl rfl rfl rfl rfl ?_
  refine ax_const (q := 76) (v := am_I 0) rfl rfl rfl ?_
  refine ax_putz (q := 79) rfl rfl (nm5z_ (k := 59) (z := 0) rfl) (Or.inl rfl) ?_
  refine ax_load (q := 80) rfl rfl rfl rfl rfl ?_
  refine ax_const (q := 81) (v := am_I 0) rfl rfl rfl ?_
  refine ax_putf (q := 84) rfl rfl (nm5p_ (k := 20) (z := 0) rfl) ?_
  refine ax_load (q := 85) rfl rfl rfl rfl rfl ?_
  refine ax_const (q := 86) (v := am_I 0) rfl rfl rfl ?_
  refine ax_putf (q := 89) rfl rfl (nm5p_ (k := 17) (z := 0) rfl) ?_
  refine ax_load (q := 90) rfl rfl rfl rfl rfl ?_
  refine ax_callv (q := 93) rfl rfl rfl rfl rfl rfl ?_
  obtain ⟨H, hH⟩ : ∃ h, h = (am_up (am_up (am_up (am_up (am_up (am_up (am_up (am_up (am_up (am_up (am_up (am_up (am_up (am_up (am_up (am_up (am_up (σ.1 135) 5 ((t : Nat) : Int)) 1 0) 4 0) 2 0) 3 (-1)) 43 0) 44 0) 45 0) 46 0) 47 0) 48 40) 49 0) 57 0) 58 0) 59 0) 20 0) 17 0) := ⟨_, rfl⟩
  rw [← hH]
  obtain ⟨σ1, h1⟩ : ∃ s, s = am_sI σ 135 H := ⟨_, rfl⟩
  rw [← h1]
  have hf1 : fp_ [] [1, 2, 3, 4, 5, 17, 20, 43, 44, 45, 46, 47, 48, 49, 57, 58, 59] [] σ σ1 := by rw [h1]; exact fp_h5 (by rw [hH]; exact fh_up (fh_up (fh_up (fh_up (fh_up (fh_up (fh_up (fh_up (fh_up (fh_up (fh_up (fh_up (fh_up (fh_up (fh_up (fh_up (fh_up (fun _ _ => rfl) (by decide)) (by decide)) (by decide)) (by decide)) (by decide)) (by decide)) (by decide)) (by decide)) (by decide)) (by decide)) (by decide)) (by decide)) (by decide)) (by decide)) (by decide)) (by decide)) (by decide))
  have zz : ∀ k, σ1.1 135 k = H k := fun k => by rw [h1, sI_at]
  have z43 : σ1.1 135 43 = 0 := by rw [zz, hH]; simp only [am_up_same, am_up_ne, ne_eq, Nat.reduceEqDiff, not_false_eq_true]; try rfl
  have z44 : σ1.1 135 44 = 0 := by rw [zz, hH]; simp only [am_up_same, am_up_ne, ne_eq, Nat.reduceEqDiff, not_false_eq_true]; try rfl
  have z45 : σ1.1 135 45 = 0 := by rw [zz, hH]; simp only [am_up_same, am_up_ne, ne_eq, Nat.reduceEqDiff, not_false_eq_true]; try rfl
  have z46 : σ1.1 135 46 = 0 := by rw [zz, hH]; simp only [am_up_same, am_up_ne, ne_eq, Nat.reduceEqDiff, not_false_eq_true]; try rfl
  have z47 : σ1.1 135 47 = 0 := by rw [zz, hH]; simp only [am_up_same, am_up_ne, ne_eq, Nat.reduceEqDiff, not_false_eq_true]; try rfl
  have z48 : σ1.1 135 48 = 40 := by rw [zz, hH]; simp only [am_up_same, am_up_ne, ne_eq, Nat.reduceEqDiff, not_false_eq_true]; try rfl
  have z49 : σ1.1 135 49 = 0 := by rw [zz, hH]; simp only [am_up_same, am_up_ne, ne_eq, Nat.reduceEqDiff, not_false_eq_true]; try rfl
  have z57 : σ1.1 135 57 = 0 := by rw [zz, hH]; simp only [am_up_same, am_up_ne, ne_eq, Nat.reduceEqDiff, not_false_eq_true]; try rfl
  have z58 : σ1.1 135 58 = 0 := by rw [zz, hH]; simp only [am_up_same, am_up_ne, ne_eq, Nat.reduceEqDiff, not_false_eq_true]; try rfl
  have z59 : σ1.1 135 59 = 0 := by rw [zz, hH]; simp only [am_up_same, am_up_ne, ne_eq, Nat.reduceEqDiff, not_false_eq_true]; try rfl
  have z20 : σ1.1 135 20 = 0 := by rw [zz, hH]; simp only [am_up_same, am_up_ne, ne_eq, Nat.reduceEqDiff, not_false_eq_true]; try rfl
  have z17 : σ1.1 135 17 = 0 := by rw [zz, hH]; simp only [am_up_same, am_up_ne, ne_eq, Nat.reduceEqDiff, not_false_eq_true]; try rfl
  have z1 : σ1.1 135 1 = 0 := by rw [zz, hH]; simp only [am_up_same, am_up_ne, ne_eq, Nat.reduceEqDiff, not_false_eq_true]; try rfl
  have z2 : σ1.1 135 2 = 0 := by rw [zz, hH]; simp only [am_up_same, am_up_ne, ne_eq, Nat.reduceEqDiff, not_false_eq_true]; try rfl
  have z3 : σ1.1 135 3 = -1 := by rw [zz, hH]; simp only [am_up_same, am_up_ne, ne_eq, Nat.reduceEqDiff, not_false_eq_true]; try rfl
  have z4 : σ1.1 135 4 = 0 := by rw [zz, hH]; simp only [am_up_same, am_up_ne, ne_eq, Nat.reduceEqDiff, not_false_eq_true]; try rfl
  have z5 : σ1.1 135 5 = (t : Int) := by rw [zz, hH]; simp only [am_up_same, am_up_ne, ne_eq, Nat.reduceEqDiff, not_false_eq_true]; try rfl
  have hZ : Z0_ (dz_ σ) := dz_z σ
  have hRz : RS_ (dz_ σ) σ1 := ⟨fun a ha => by
      have h3 : 138 ≤ a ∧ a ≤ 161 := by
        unfold rsA_ at ha
        simp at ha
        omega
      rw [hf1.1 a (by simp) (by omega)]
      unfold dz_
      rw [if_neg (by omega), if_neg (by omega), if_pos h3], fun k hk => by
      unfold rsF_ at hk
      simp at hk
      rcases hk with rfl | rfl | rfl | rfl | rfl | rfl | rfl | rfl | rfl | rfl | rfl | rfl
      · exact z17
      · exact z20
      · exact z43
      · exact z44
      · exact z45
      · exact z46
      · exact z47
      · exact z48
      · exact z49
      · exact z57
      · exact z58
      · exact z59, hf1.2.2.1 137 (by simp) (by decide)⟩
  refine m_token (a := 0) (by omega) ((hf1.1 136 (by decide) (by decide)).trans h136) z5 ht9 z4 (by omega) (fun σ2 hk2 hT2 => ?_)
  have hsl := skp_le tp t (t - 0) 0
  rw [Nat.sub_zero] at hT2 hsl
  have hP2 : PS_ tp t (skp_ tp t t 0) σ2 := ⟨hT2, (hk2.1 136 (by decide) (by decide)).trans ((hf1.1 136 (by decide) (by decide)).trans h136), (hk2.2.1 5 (by decide)).trans z5, ht9, by omega, (hk2.2.1 3 (by decide)).trans z3⟩
  have hR2 : RS_ (dz_ σ) σ2 := RS_.tok hRz hk2 (by decide)
  have hF0 : fp_ rfA_ (1 :: 5 :: rfF_) [137] σ σ2 := fp_tr (fp_tr (fp_rf _ _ _ _) hf1 (by decide) (by decide) (by decide)) hk2 (by decide) (by decide) (by decide)
  have z12 : σ2.1 135 1 = 0 := (hk2.2.1 1 (by decide)).trans z1
  exact l_readAll (by omega) (t + 1) _ (dz_ σ) σ2 hP2 ((hk2.2.1 2 (by decide)).trans z2) hR2 ⟨_, _, _, _, _, hZ.dw⟩ (RF_.rf σ2) (by omega) (fun e he σ' hf' h0 hF => (hQ _ rfl).1 e he σ' (fp_tr hF0 hf' (by decide) (by decide) (by decide)) ((hf'.2.1 1 (by decide)).trans z12) h0 hF) (fun D' p' he σ' hf' h2' hP' hR' => (hQ _ rfl).2 D' p' he σ' (fp_tr hF0 hf' (by decide) (by decide) (by decide)) ((hf'.2.1 1 (by decide)).trans z12) h2' hP'.2.2.2.2.2 hR' (all_in _ _ _ he (by omega) ⟨_, _, _, _, _, hZ.dw⟩))

def TO_ (T : sp_T) (σ : am_S) : Prop :=
  (σ.1 158 = T 158) ∧ (σ.1 135 51 = T 135 51) ∧ (σ.1 135 53 = T 135 53)
theorem TO_.a158 {T : sp_T} {σ : am_S} (h : TO_ T σ) : σ.1 158 = T 158 := h.1
theorem TO_.s51 {T : sp_T} {σ : am_S} (h : TO_ T σ) : σ.1 135 51 = T 135 51 := h.2.1
theorem TO_.s53 {T : sp_T} {σ : am_S} (h : TO_ T σ) : σ.1 135 53 = T 135 53 := h.2.2

theorem l_allOddsO {d : Nat} (hd : 0 ≤ d) {σ : am_S} {T : sp_T} (hT : TO_ T σ) (hV : TV_ T) {q : Nat} (hq : q < nR_ T) {Q : Option am_V → am_S → Prop} (hQ : Q (some (am_I (al_ T q))) σ) : ∀ (m k : Nat), k + m = nO_ T → aW d 0 k_X9_allOdds Q 4 [some (am_R 135), some (am_I ((q : Nat) : Int)), some (am_I (su_ k (fun o => T 158 (8 * q + o)))), some (am_I ((k : Nat) : Int))] [] σ := by
  have hn := hV.nO
  have hr := hV.nR
  intro m
  induction m with
  | zero =>
    intro k hk
    obtain rfl : k = nO_ T := by omega
    refine ax_load (q := 5) rfl rfl rfl rfl rfl ?_
    refine ax_load (q := 6) rfl rfl rfl rfl rfl ?_
    refine ax_getf (q := 9) (v := am_I ((nO_ T : Nat) : Int)) rfl rfl (am_fg rfl (hT.s51.trans hV.nO.1)) ?_
    refine ax_icmp_ge (q := 12) (x := 32) rfl rfl (fun h9 => ?_) (fun h => absurd h (by omega))
    refine ax_load (q := 33) rfl rfl rfl rfl rfl ?_
    refine ax_ret (r := some (am_I (su_ (nO_ T) (fun o => T 158 (8 * q + o))))) rfl rfl ?_
    exact hQ
  | succ m ih =>
    intro k hk
    have hs := su_bd (f := (fun o => T 158 (8 * q + o))) (b := 9) (by omega) k (fun j hj => hV.od hq (by omega))
    have ho := hV.od hq (o := k) (by omega)
    refine ax_load (q := 5) rfl rfl rfl rfl rfl ?_
    refine ax_load (q := 6) rfl rfl rfl rfl rfl ?_
    refine ax_getf (q := 9) (v := am_I ((nO_ T : Nat) : Int)) rfl rfl (am_fg rfl (hT.s51.trans hV.nO.1)) ?_
    refine ax_icmp_ge (q := 12) (x := 32) rfl rfl (fun h => absurd h (by omega)) (fun h9 => ?_)
    refine ax_load (q := 13) rfl rfl rfl rfl rfl ?_
    refine ax_load (q := 14) rfl rfl rfl rfl rfl ?_
    refine ax_getf (q := 17) (v := am_R 158) rfl rfl (rfl) ?_
    refine ax_const (q := 19) (v := am_I 8) rfl rfl rfl ?_
    refine ax_load (q := 20) rfl rfl rfl rfl rfl ?_
    refine ax_imul (q := 21) (z := ((8 * q : Nat) : Int)) rfl rfl (am_we (by omega) (by omega) (by omega)) ?_
    refine ax_load (q := 22) rfl rfl rfl rfl rfl ?_
    refine ax_iadd (q := 23) (z := (((8 * q) + k : Nat) : Int)) rfl rfl (am_we (by omega) (by omega) (by omega)) ?_
    refine bx_iald (q := 24) (k := (8 * q) + k) (z := T 158 ((8 * q) + k)) rfl rfl (rfl) (by omega) (by omega) (congrFun hT.a158 _) ?_
    refine ax_iadd (q := 25) (z := su_ k (fun o => T 158 (8 * q + o)) + (T 158 ((8 * q) + k))) rfl rfl (am_we (by omega) (by omega) (by omega)) ?_
    refine ax_store (q := 26) (L' := [some (am_R 135), some (am_I ((q : Nat) : Int)), some (am_I (su_ k (fun o => T 158 (8 * q + o)) + (T 158 ((8 * q) + k)))), some (am_I ((k : Nat) : Int))]) rfl rfl rfl rfl rfl rfl ?_
    refine ax_iinc (q := 29) (z' := ((k + 1 : Nat) : Int)) (L' := [some (am_R 135), some (am_I ((q : Nat) : Int)), some (am_I (su_ k (fun o => T 158 (8 * q + o)) + (T 158 ((8 * q) + k)))), some (am_I ((k + 1 : Nat) : Int))]) rfl rfl rfl rfl (am_we (by omega) (by omega) (by omega)) rfl ?_
    refine ax_goto (x := 4) rfl ?_
    exact ih (k + 1) (by omega)


theorem m_allOddsO {d : Nat} (hd : 1 ≤ d) {σ : am_S} {T : sp_T} (hT : TO_ T σ) (hV : TV_ T) {q : Nat} (hq : q < nR_ T) {Q : Option am_V → am_S → Prop} (hQ : Q (some (am_I (al_ T q))) σ) : am_Ev d 184 [am_R 135, am_I ((q : Nat) : Int)] σ Q := by
  obtain ⟨d, rfl⟩ : ∃ e, d = e + 1 := ⟨d - 1, by omega⟩
  refine ev_in (m := 184) (c := k_X9_allOdds) (L := [some (am_R 135), some (am_I ((q : Nat) : Int)), none, none]) rfl rfl rfl rfl rfl rfl ?_
  refine ax_const (q := 1) (v := am_I 0) rfl rfl rfl ?_
  refine ax_store (q := 2) (L' := [some (am_R 135), some (am_I ((q : Nat) : Int)), some (am_I 0), none]) rfl rfl rfl rfl rfl rfl ?_
  refine ax_const (q := 3) (v := am_I 0) rfl rfl rfl ?_
  refine ax_store (q := 4) (L' := [some (am_R 135), some (am_I ((q : Nat) : Int)), some (am_I 0), some (am_I 0)]) rfl rfl rfl rfl rfl rfl ?_
  exact l_allOddsO (by omega) hT hV hq hQ (nO_ T) 0 (by omega)

theorem l_drawOfO {d : Nat} {σ : am_S} {T : sp_T} (hT : TO_ T σ) (hV : TV_ T) {q : Nat} (hq : q < nR_ T) {x2 : Int} {Q : Option am_V → am_S → Prop} : ∀ (m o : Nat) (l : Int), o + m = nO_ T → 0 ≤ l → l < su_ (nO_ T) (fun o => T 158 (8 * q + o)) - su_ o (fun o => T 158 (8 * q + o)) → (hQ : Q (some (am_I (dq_ T q m o l))) σ) → aW d 0 k_X9_drawOf Q 22 [some (am_R 135), some (am_I ((q : Nat) : Int)), some (am_I x2), some (am_I l), some (am_I ((o : Nat) : Int))] [] σ := by
  have hO := hV.nO
  have hR := hV.nR
  intro m
  induction m with
  | zero =>
    intro o l ho h0 hl hQ
    obtain rfl : o = nO_ T := by omega
    omega
  | succ m ih =>
    intro o l ho h0 hl hQ
    have hb := hV.od hq (o := o) (by omega)
    have hsu := su_bd (f := fun o => T 158 (8 * q + o)) (b := 9) (by omega) (nO_ T) (fun k hk => hV.od hq hk)
    have hsu2 := su_bd (f := fun o => T 158 (8 * q + o)) (b := 9) (by omega) o (fun k hk => hV.od hq (by omega))
    refine ax_load (q := 23) rfl rfl rfl rfl rfl ?_
    refine ax_load (q := 24) rfl rfl rfl rfl rfl ?_
    refine ax_getf (q := 27) (v := am_R 158) rfl rfl (rfl) ?_
    refine ax_const (q := 29) (v := am_I 8) rfl rfl rfl ?_
    refine ax_load (q := 30) rfl rfl rfl rfl rfl ?_
    refine ax_imul (q := 31) (z := ((8 * q : Nat) : Int)) rfl rfl (am_we (by omega) (by omega) (by omega)) ?_
    refine ax_load (q := 33) rfl rfl rfl rfl rfl ?_
    refine ax_iadd (q := 34) (z := (((8 * q) + o : Nat) : Int)) rfl rfl (am_we (by omega) (by omega) (by omega)) ?_
    refine bx_iald (q := 35) (k := (8 * q) + o) (z := T 158 ((8 * q) + o)) rfl rfl (rfl) (by omega) (by omega) (congrFun hT.a158 _) ?_
    refine ax_icmp_lt (q := 38) (x := 59) rfl rfl (fun h35 => ?_) (fun h35 => ?_)
    · refine ax_load (q := 61) rfl rfl rfl rfl rfl ?_
      refine ax_ret (r := some (am_I ((o : Nat) : Int))) rfl rfl ?_
      rw [show dq_ T q (m + 1) o l = (o : Int) from if_pos (by omega)] at hQ
      exact hQ
    · refine ax_load (q := 39) rfl rfl rfl rfl rfl ?_
      refine ax_load (q := 40) rfl rfl rfl rfl rfl ?_
      refine ax_getf (q := 43) (v := am_R 158) rfl rfl (rfl) ?_
      refine ax_const (q := 45) (v := am_I 8) rfl rfl rfl ?_
      refine ax_load (q := 46) rfl rfl rfl rfl rfl ?_
      refine ax_imul (q := 47) (z := ((8 * q : Nat) : Int)) rfl rfl (am_we (by omega) (by omega) (by omega)) ?_
      refine ax_load (q := 49) rfl rfl rfl rfl rfl ?_
      refine ax_iadd (q := 50) (z := (((8 * q) + o : Nat) : Int)) rfl rfl (am_we (by omega) (by omega) (by omega)) ?_
      refine bx_iald (q := 51) (k := (8 * q) + o) (z := T 158 ((8 * q) + o)) rfl rfl (rfl) (by omega) (by omega) (congrFun hT.a158 _) ?_
      refine ax_isub (q := 52) (z := l - (T 158 ((8 * q) + o))) rfl rfl (am_we (by omega) (by omega) (by omega)) ?_
      refine ax_store (q := 53) (L' := [some (am_R 135), some (am_I ((q : Nat) : Int)), some (am_I x2), some (am_I (l - (T 158 ((8 * q) + o)))), some (am_I ((o : Nat) : Int))]) rfl rfl rfl rfl rfl rfl ?_
      refine ax_iinc (q := 56) (z' := ((o + 1 : Nat) : Int)) (L' := [some (am_R 135), some (am_I ((q : Nat) : Int)), some (am_I x2), some (am_I (l - (T 158 ((8 * q) + o)))), some (am_I ((o + 1 : Nat) : Int))]) rfl rfl rfl rfl (am_we (by omega) (by omega) (by omega)) rfl ?_
      refine ax_goto (x := 22) rfl ?_
      rw [show dq_ T q (m + 1) o l = dq_ T q m (o + 1) (l - T 158 (8 * q + o)) from if_neg (by omega)] at hQ
      exact ih (o + 1) (l - T 158 (8 * q + o)) (by omega) (by omega) (by show _ < _ - (su_ o (fun o => T 158 (8 * q + o)) + T 158 (8 * q + o)); omega) hQ

theorem m_drawOfO {d : Nat} (hd : 2 ≤ d) {σ : am_S} {T : sp_T} (hT : TO_ T σ) (hV : TV_ T) {q : Nat} (hq : q < nR_ T) {s : Nat} (hs : σ.1 135 56 = (s : Int)) (hs9 : s < 1000) {Q : Option am_V → am_S → Prop} (hQ : Q (some (am_I (dr_ T q (s : Int)))) σ) : am_Ev d 185 [am_R 135, am_I ((q : Nat) : Int)] σ Q := by
  obtain ⟨d, rfl⟩ : ∃ e, d = e + 1 := ⟨d - 1, by omega⟩
  have hO := hV.nO
  have hab := al_bd hV hq
  obtain ⟨A, hA⟩ : ∃ A : Nat, al_ T q = (A : Int) := ⟨(al_ T q).toNat, by omega⟩
  refine ev_in (m := 185) (c := k_X9_drawOf) (L := [some (am_R 135), some (am_I ((q : Nat) : Int)), none, none, none]) rfl rfl rfl rfl rfl rfl ?_
  refine ax_load (q := 1) rfl rfl rfl rfl rfl ?_
  refine ax_load (q := 2) rfl rfl rfl rfl rfl ?_
  refine ax_callv (q := 5) rfl rfl rfl rfl rfl rfl ?_
  refine m_allOddsO (by omega) hT hV hq ?_
  rw [hA]
  refine ax_store (q := 6) (L' := [some (am_R 135), some (am_I ((q : Nat) : Int)), some (am_I ((A : Nat) : Int)), none, none]) rfl rfl rfl rfl rfl rfl ?_
  refine ax_load (q := 7) rfl rfl rfl rfl rfl ?_
  refine ax_if_ne (q := 10) (x := 12) rfl rfl (fun h7 => ?_) (fun h7 => ?_)
  · refine ax_load (q := 13) rfl rfl rfl rfl rfl ?_
    refine ax_getf (q := 16) (v := am_I ((s : Nat) : Int)) rfl rfl (am_fg rfl hs) ?_
    refine ax_load (q := 17) rfl rfl rfl rfl rfl ?_
    refine ax_irem (q := 18) (z := (((s % A) : Nat) : Int)) rfl rfl (by omega) (am_rem_nat (by omega) (by omega) (by omega)) ?_
    refine ax_store (q := 19) (L' := [some (am_R 135), some (am_I ((q : Nat) : Int)), some (am_I ((A : Nat) : Int)), some (am_I (((s % A) : Nat) : Int)), none]) rfl rfl rfl rfl rfl rfl ?_
    refine ax_const (q := 20) (v := am_I 0) rfl rfl rfl ?_
    refine ax_store (q := 22) (L' := [some (am_R 135), some (am_I ((q : Nat) : Int)), some (am_I ((A : Nat) : Int)), some (am_I (((s % A) : Nat) : Int)), some (am_I 0)]) rfl rfl rfl rfl rfl rfl ?_
    have hml := Nat.mod_lt s (show 0 < A by omega)
    rw [show dr_ T q (s : Int) = dq_ T q (nO_ T) 0 (((s % A : Nat) : Int)) by unfold dr_; rw [if_neg (by omega), hA, am_rem_nat (by omega) (by omega) (by omega)]] at hQ
    refine l_drawOfO hT hV hq (nO_ T) 0 _ (by omega) (by omega) (by show _ < _ - (0 : Int); unfold al_ at hA; omega) hQ
  · refine ax_const (q := 11) (v := am_I (-1)) rfl rfl rfl ?_
    refine ax_ret (r := some (am_I (-1))) rfl rfl ?_
    rw [show dr_ T q (s : Int) = -1 from if_pos (by omega)] at hQ
    exact hQ


/-- the row, the parishes and the seed when k PERSONS are laid -/
def lyt_ (T D : sp_T) (g f : Nat → Int) (s : Nat) : Nat → (Nat → Int) × (Nat → Int) × Nat
  | 0 => (g, f, s)
  | k + 1 => (am_up (am_up (am_up (am_up (am_up (am_up (am_up (am_up (lyt_ T D g f s k).1 k (D 160 k)) (6 + k) (dr_ T (D 159 k).toNat ((((lyt_ T D g f s k).2.2 * 137 + 71) % 1000 : Nat) : Int))) (12 + k) 0) (18 + k) (-1)) (24 + 4 * k + 0) (D 161 (4 * k + 0))) (24 + 4 * k + 1) (D 161 (4 * k + 1))) (24 + 4 * k + 2) (D 161 (4 * k + 2))) (24 + 4 * k + 3) (D 161 (4 * k + 3)), am_up (lyt_ T D g f s k).2.1 k (D 159 k), ((lyt_ T D g f s k).2.2 * 137 + 71) % 1000)
theorem lyt_s (T D : sp_T) (g f : Nat → Int) {s : Nat} (h : s < 1000) : ∀ k, (lyt_ T D g f s k).2.2 < 1000
  | 0 => h
  | k + 1 => Nat.mod_lt _ (by decide)

theorem l_layZ {d : Nat} {σ0 : am_S} {Q : Option am_V → am_S → Prop} (hQ : ∀ σ, fp_ [163] [] [] σ0 σ → σ.1 163 = cp_ (fun _ => 0) (σ0.1 163) 50 → aW d 4 k_X9_layTown Q 21 [some (am_R 135), some (am_I 50), none] [] σ) : ∀ (m k : Nat) (σ : am_S), k + m = 50 → fp_ [163] [] [] σ0 σ → σ.1 163 = cp_ (fun _ => 0) (σ0.1 163) k → aW d 4 k_X9_layTown Q 2 [some (am_R 135), some (am_I ((k : Nat) : Int)), none] [] σ := by
  intro m
  induction m with
  | zero =>
    intro k σ hk hf h163
    obtain rfl : k = 50 := by omega
    refine ax_load (q := 3) rfl rfl rfl rfl rfl ?_
    refine ax_const (q := 5) (v := am_I 50) rfl rfl rfl ?_
    refine ax_icmp_ge (q := 8) (x := 21) rfl rfl (fun h5 => ?_) (fun h => absurd h (by omega))
    exact hQ σ hf h163
  | succ m ih =>
    intro k σ hk hf h163
    refine ax_load (q := 3) rfl rfl rfl rfl rfl ?_
    refine ax_const (q := 5) (v := am_I 50) rfl rfl rfl ?_
    refine ax_icmp_ge (q := 8) (x := 21) rfl rfl (fun h => absurd h (by omega)) (fun h5 => ?_)
    refine ax_load (q := 9) rfl rfl rfl rfl rfl ?_
    refine ax_getf (q := 12) (v := am_R 163) rfl rfl (rfl) ?_
    refine ax_load (q := 13) rfl rfl rfl rfl rfl ?_
    refine ax_const (q := 14) (v := am_I 0) rfl rfl rfl ?_
    refine bx_iast (q := 15) (k := k) rfl rfl (rfl) (by omega) (by omega) ?_
    refine ax_iinc (q := 18) (z' := ((k + 1 : Nat) : Int)) (L' := [some (am_R 135), some (am_I ((k + 1 : Nat) : Int)), none]) rfl rfl rfl rfl (am_we (by omega) (by omega) (by omega)) rfl ?_
    refine ax_goto (x := 2) rfl ?_
    refine ih (k + 1) _ (by omega) (fp_sI hf (by decide) (by decide)) ?_
    rw [sI_at, h163]
    exact cp_step (fun _ => 0) (σ0.1 163) k

theorem l_layP {d : Nat} (hd : 2 ≤ d) {σ0 : am_S} {T D : sp_T} (hV : TV_ T) {nS nO nR nU : Nat} (hD : DW_ D nS nO nR (nP_ T) nU) (hnR : nR = nR_ T) (hT : TO_ T σ0) (hR : RS_ D σ0) {g f : Nat → Int} {s : Nat} (hs : s < 1000) {Q : Option am_V → am_S → Prop} (hQ : ∀ σ x2, fp_ [162, 163] [56] [] σ0 σ → σ.1 163 = (lyt_ T D g f s (nP_ T)).1 → σ.1 162 = (lyt_ T D g f s (nP_ T)).2.1 → σ.1 135 56 = (((lyt_ T D g f s (nP_ T)).2.2 : Nat) : Int) → aW d 4 k_X9_layTown Q 163 [some (am_R 135), some (am_I ((nP_ T : Nat) : Int)), x2] [] σ) : ∀ (m k : Nat) (x2 : Option am_V) (σ : am_S), k + m = nP_ T → fp_ [162, 163] [56] [] σ0 σ → σ.1 163 = (lyt_ T D g f s k).1 → σ.1 162 = (lyt_ T D g f s k).2.1 → σ.1 135 56 = (((lyt_ T D g f s k).2.2 : Nat) : Int) → aW d 4 k_X9_layTown Q 31 [some (am_R 135), some (am_I ((k : Nat) : Int)), x2] [] σ := by
  have hP6 := hD.P6
  intro m
  induction m with
  | zero =>
    intro k x2 σ hk hf h163 h162 h56
    obtain rfl : k = nP_ T := by omega
    have h53 : σ.1 135 53 = ((nP_ T : Nat) : Int) := ((hf.2.1 53 (by decide)).trans hT.s53).trans hV.nP.1
    refine ax_load (q := 32) rfl rfl rfl rfl rfl ?_
    refine ax_load (q := 33) rfl rfl rfl rfl rfl ?_
    refine ax_getf (q := 36) (v := am_I (((nP_ T) : Nat) : Int)) rfl rfl (am_fg rfl h53) ?_
    refine ax_icmp_ge (q := 39) (x := 163) rfl rfl (fun h36 => ?_) (fun h => absurd h (by omega))
    exact hQ σ x2 hf h163 h162 h56
  | succ m ih =>
    intro k x2 σ hk hf h163 h162 h56
    have h53 : σ.1 135 53 = ((nP_ T : Nat) : Int) := ((hf.2.1 53 (by decide)).trans hT.s53).trans hV.nP.1
    have hpk := hD.pe k (by omega)
    obtain ⟨q, hq⟩ : ∃ q : Nat, D 159 k = (q : Int) := ⟨(D 159 k).toNat, by omega⟩
    have hqR : q < nR_ T := by omega
    have hss := lyt_s T D g f hs k
    obtain ⟨z, hz⟩ : ∃ z, z = (lyt_ T D g f s k).2.2 := ⟨_, rfl⟩
    rw [← hz] at h56 hss
    refine ax_load (q := 32) rfl rfl rfl rfl rfl ?_
    refine ax_load (q := 33) rfl rfl rfl rfl rfl ?_
    refine ax_getf (q := 36) (v := am_I (((nP_ T) : Nat) : Int)) rfl rfl (am_fg rfl ((hf.2.1 53 (by decide)).trans (hT.s53.trans hV.nP.1))) ?_
    refine ax_icmp_ge (q := 39) (x := 163) rfl rfl (fun h => absurd h (by omega)) (fun h36 => ?_)
    refine ax_load (q := 40) rfl rfl rfl rfl rfl ?_
    refine ax_getf (q := 43) (v := am_R 162) rfl rfl (rfl) ?_
    refine ax_load (q := 44) rfl rfl rfl rfl rfl ?_
    refine ax_load (q := 45) rfl rfl rfl rfl rfl ?_
    refine ax_getf (q := 48) (v := am_R 159) rfl rfl (rfl) ?_
    refine ax_load (q := 49) rfl rfl rfl rfl rfl ?_
    refine bx_iald (q := 50) (k := k) (z := ((q : Nat) : Int)) rfl rfl (rfl) (by omega) (by omega) ((congrFun ((hf.1 159 (by decide) (by decide)).trans (hR.1 159 (by decide))) _).trans hq) ?_
    refine bx_iast (q := 51) (k := k) rfl rfl (rfl) (by omega) (by omega) ?_
    obtain ⟨σ21, he⟩ : ∃ s, s = (am_sI σ 162 (am_up (σ.1 162) k ((q : Nat) : Int))) := ⟨_, rfl⟩
    rw [← he]
    have hf21 : fp_ [162, 163] [56] [] σ0 σ21 := by rw [he]; exact fp_sI hf (by decide) (by decide)
    have h16321 : σ21.1 163 = (lyt_ T D g f s k).1 := by rw [he, sI_ne (by decide), h163]
    have h16221 : σ21.1 162 = (am_up (lyt_ T D g f s k).2.1 k ((q : Nat) : Int)) := by rw [he, sI_at, h162]
    have h5621 : σ21.1 135 56 = ((z : Nat) : Int) := by rw [he, sI_ne (by decide), h56]
    clear he
    refine ax_load (q := 52) rfl rfl rfl rfl rfl ?_
    refine ax_getf (q := 55) (v := am_R 163) rfl rfl (rfl) ?_
    refine ax_load (q := 56) rfl rfl rfl rfl rfl ?_
    refine ax_load (q := 57) rfl rfl rfl rfl rfl ?_
    refine ax_getf (q := 60) (v := am_R 160) rfl rfl (rfl) ?_
    refine ax_load (q := 61) rfl rfl rfl rfl rfl ?_
    refine bx_iald (q := 62) (k := k) (z := D 160 k) rfl rfl (rfl) (by omega) (by omega) (congrFun ((hf21.1 160 (by decide) (by decide)).trans (hR.1 160 (by decide))) _) ?_
    refine bx_iast (q := 63) (k := k) rfl rfl (rfl) (by omega) (by omega) ?_
    obtain ⟨σ22, he⟩ : ∃ s, s = (am_sI σ21 163 (am_up (σ21.1 163) k (D 160 k))) := ⟨_, rfl⟩
    rw [← he]
    have hf22 : fp_ [162, 163] [56] [] σ0 σ22 := by rw [he]; exact fp_sI hf21 (by decide) (by decide)
    have h16322 : σ22.1 163 = (am_up (lyt_ T D g f s k).1 k (D 160 k)) := by rw [he, sI_at, h16321]
    have h16222 : σ22.1 162 = (am_up (lyt_ T D g f s k).2.1 k ((q : Nat) : Int)) := by rw [he, sI_ne (by decide), h16221]
    have h5622 : σ22.1 135 56 = ((z : Nat) : Int) := by rw [he, sI_ne (by decide), h5621]
    clear he
    refine ax_load (q := 64) rfl rfl rfl rfl rfl ?_
    refine ax_load (q := 65) rfl rfl rfl rfl rfl ?_
    refine ax_getf (q := 68) (v := am_I ((z : Nat) : Int)) rfl rfl (am_fg rfl h5622) ?_
    refine ax_const (q := 71) (v := am_I 137) rfl rfl rfl ?_
    refine ax_imul (q := 72) (z := ((z * 137 : Nat) : Int)) rfl rfl (am_we (by omega) (by omega) (by omega)) ?_
    refine ax_const (q := 74) (v := am_I 71) rfl rfl rfl ?_
    refine ax_iadd (q := 75) (z := (((z * 137) + 71 : Nat) : Int)) rfl rfl (am_we (by omega) (by omega) (by omega)) ?_
    refine ax_const (q := 78) (v := am_I 1000) rfl rfl rfl ?_
    refine ax_irem (q := 79) (z := (((z * 137 + 71) % 1000 : Nat) : Int)) rfl rfl (by omega) (am_rem_nat (a := z * 137 + 71) (b := 1000) (by omega) (by omega) (by omega)) ?_
    refine ax_putf (q := 82) rfl rfl rfl ?_
    obtain ⟨σ23, he⟩ : ∃ s, s = (am_sI σ22 135 (am_up (σ22.1 135) 56 (((z * 137 + 71) % 1000 : Nat) : Int))) := ⟨_, rfl⟩
    rw [← he]
    have hf23 : fp_ [162, 163] [56] [] σ0 σ23 := by rw [he]; exact fp_s5 hf22 (by decide)
    have h16323 : σ23.1 163 = (am_up (lyt_ T D g f s k).1 k (D 160 k)) := by rw [he, sI_ne (by decide), h16322]
    have h16223 : σ23.1 162 = (am_up (lyt_ T D g f s k).2.1 k ((q : Nat) : Int)) := by rw [he, sI_ne (by decide), h16222]
    have h5623 : σ23.1 135 56 = ((((z * 137 + 71) % 1000) : Nat) : Int) := by rw [he, sI_at, am_up_same]
    clear he
    refine ax_load (q := 83) rfl rfl rfl rfl rfl ?_
    refine ax_getf (q := 86) (v := am_R 163) rfl rfl (rfl) ?_
    refine ax_const (q := 88) (v := am_I 6) rfl rfl rfl ?_
    refine ax_load (q := 89) rfl rfl rfl rfl rfl ?_
    refine ax_iadd (q := 90) (z := ((6 + k : Nat) : Int)) rfl rfl (am_we (by omega) (by omega) (by omega)) ?_
    refine ax_load (q := 91) rfl rfl rfl rfl rfl ?_
    refine ax_load (q := 92) rfl rfl rfl rfl rfl ?_
    refine ax_getf (q := 95) (v := am_R 162) rfl rfl (rfl) ?_
    refine ax_load (q := 96) rfl rfl rfl rfl rfl ?_
    refine bx_iald (q := 97) (k := k) (z := ((q : Nat) : Int)) rfl rfl (rfl) (by omega) (by omega) ((congrFun h16223 _).trans (am_up_same _ _ _)) ?_
    refine ax_callv (q := 100) rfl rfl rfl rfl rfl rfl ?_
    have hO : TO_ T σ23 := ⟨(hf23.1 158 (by decide) (by decide)).trans hT.a158, (hf23.2.1 51 (by decide)).trans hT.s51, (hf23.2.1 53 (by decide)).trans hT.s53⟩
    refine m_drawOfO (by omega) hO hV hqR (s := (z * 137 + 71) % 1000) h5623 (Nat.mod_lt _ (by decide)) ?_
    refine bx_iast (q := 101) (k := 6 + k) rfl rfl (rfl) (by omega) (by omega) ?_
    obtain ⟨σ24, he⟩ : ∃ s, s = (am_sI σ23 163 (am_up (σ23.1 163) (6 + k) (dr_ T q (((z * 137 + 71) % 1000 : Nat) : Int)))) := ⟨_, rfl⟩
    rw [← he]
    have hf24 : fp_ [162, 163] [56] [] σ0 σ24 := by rw [he]; exact fp_sI hf23 (by decide) (by decide)
    have h16324 : σ24.1 163 = (am_up (am_up (lyt_ T D g f s k).1 k (D 160 k)) (6 + k) (dr_ T q (((z * 137 + 71) % 1000 : Nat) : Int))) := by rw [he, sI_at, h16323]
    have h16224 : σ24.1 162 = (am_up (lyt_ T D g f s k).2.1 k ((q : Nat) : Int)) := by rw [he, sI_ne (by decide), h16223]
    have h5624 : σ24.1 135 56 = ((((z * 137 + 71) % 1000) : Nat) : Int) := by rw [he, sI_ne (by decide), h5623]
    clear he
    refine ax_load (q := 102) rfl rfl rfl rfl rfl ?_
    refine ax_getf (q := 105) (v := am_R 163) rfl rfl (rfl) ?_
    refine ax_const (q := 107) (v := am_I 12) rfl rfl rfl ?_
    refine ax_load (q := 108) rfl rfl rfl rfl rfl ?_
    refine ax_iadd (q := 109) (z := ((12 + k : Nat) : Int)) rfl rfl (am_we (by omega) (by omega) (by omega)) ?_
    refine ax_const (q := 110) (v := am_I 0) rfl rfl rfl ?_
    refine bx_iast (q := 111) (k := 12 + k) rfl rfl (rfl) (by omega) (by omega) ?_
    obtain ⟨σ25, he⟩ : ∃ s, s = (am_sI σ24 163 (am_up (σ24.1 163) (12 + k) 0)) := ⟨_, rfl⟩
    rw [← he]
    have hf25 : fp_ [162, 163] [56] [] σ0 σ25 := by rw [he]; exact fp_sI hf24 (by decide) (by decide)
    have h16325 : σ25.1 163 = (am_up (am_up (am_up (lyt_ T D g f s k).1 k (D 160 k)) (6 + k) (dr_ T q (((z * 137 + 71) % 1000 : Nat) : Int))) (12 + k) 0) := by rw [he, sI_at, h16324]
    have h16225 : σ25.1 162 = (am_up (lyt_ T D g f s k).2.1 k ((q : Nat) : Int)) := by rw [he, sI_ne (by decide), h16224]
    have h5625 : σ25.1 135 56 = ((((z * 137 + 71) % 1000) : Nat) : Int) := by rw [he, sI_ne (by decide), h5624]
    clear he
    refine ax_load (q := 112) rfl rfl rfl rfl rfl ?_
    refine ax_getf (q := 115) (v := am_R 163) rfl rfl (rfl) ?_
    refine ax_const (q := 117) (v := am_I 18) rfl rfl rfl ?_
    refine ax_load (q := 118) rfl rfl rfl rfl rfl ?_
    refine ax_iadd (q := 119) (z := ((18 + k : Nat) : Int)) rfl rfl (am_we (by omega) (by omega) (by omega)) ?_
    refine ax_const (q := 120) (v := am_I (-1)) rfl rfl rfl ?_
    refine bx_iast (q := 121) (k := 18 + k) rfl rfl (rfl) (by omega) (by omega) ?_
    obtain ⟨σ26, he⟩ : ∃ s, s = (am_sI σ25 163 (am_up (σ25.1 163) (18 + k) (-1))) := ⟨_, rfl⟩
    rw [← he]
    have hf26 : fp_ [162, 163] [56] [] σ0 σ26 := by rw [he]; exact fp_sI hf25 (by decide) (by decide)
    have h16326 : σ26.1 163 = (am_up (am_up (am_up (am_up (lyt_ T D g f s k).1 k (D 160 k)) (6 + k) (dr_ T q (((z * 137 + 71) % 1000 : Nat) : Int))) (12 + k) 0) (18 + k) (-1)) := by rw [he, sI_at, h16325]
    have h16226 : σ26.1 162 = (am_up (lyt_ T D g f s k).2.1 k ((q : Nat) : Int)) := by rw [he, sI_ne (by decide), h16225]
    have h5626 : σ26.1 135 56 = ((((z * 137 + 71) % 1000) : Nat) : Int) := by rw [he, sI_ne (by decide), h5625]
    clear he
    refine ax_const (q := 122) (v := am_I 0) rfl rfl rfl ?_
    refine ax_store (q := 123) (L' := [some (am_R 135), some (am_I ((k : Nat) : Int)), some (am_I 0)]) rfl rfl rfl rfl rfl rfl ?_
    refine ax_load (q := 124) rfl rfl rfl rfl rfl ?_
    refine ax_const (q := 125) (v := am_I 4) rfl rfl rfl ?_
    refine ax_icmp_ge (q := 128) (x := 157) rfl rfl (fun h => absurd h (by omega)) (fun h125 => ?_)
    refine ax_load (q := 129) rfl rfl rfl rfl rfl ?_
    refine ax_getf (q := 132) (v := am_R 163) rfl rfl (rfl) ?_
    refine ax_const (q := 134) (v := am_I 24) rfl rfl rfl ?_
    refine ax_const (q := 135) (v := am_I 4) rfl rfl rfl ?_
    refine ax_load (q := 136) rfl rfl rfl rfl rfl ?_
    refine ax_imul (q := 137) (z := ((4 * k : Nat) : Int)) rfl rfl (am_we (by omega) (by omega) (by omega)) ?_
    refine ax_iadd (q := 138) (z := ((24 + (4 * k) : Nat) : Int)) rfl rfl (am_we (by omega) (by omega) (by omega)) ?_
    refine ax_load (q := 139) rfl rfl rfl rfl rfl ?_
    refine ax_iadd (q := 140) (z := (((24 + (4 * k)) + 0 : Nat) : Int)) rfl rfl (am_we (by omega) (by omega) (by omega)) ?_
    refine ax_load (q := 141) rfl rfl rfl rfl rfl ?_
    refine ax_getf (q := 144) (v := am_R 161) rfl rfl (rfl) ?_
    refine ax_const (q := 145) (v := am_I 4) rfl rfl rfl ?_
    refine ax_load (q := 146) rfl rfl rfl rfl rfl ?_
    refine ax_imul (q := 147) (z := ((4 * k : Nat) : Int)) rfl rfl (am_we (by omega) (by omega) (by omega)) ?_
    refine ax_load (q := 148) rfl rfl rfl rfl rfl ?_
    refine ax_iadd (q := 149) (z := (((4 * k) + 0 : Nat) : Int)) rfl rfl (am_we (by omega) (by omega) (by omega)) ?_
    refine bx_iald (q := 150) (k := (4 * k) + 0) (z := D 161 ((4 * k) + 0)) rfl rfl (rfl) (by omega) (by omega) (congrFun ((hf26.1 161 (by decide) (by decide)).trans (hR.1 161 (by decide))) _) ?_
    refine bx_iast (q := 151) (k := (24 + (4 * k)) + 0) rfl rfl (rfl) (by omega) (by omega) ?_
    obtain ⟨σ27, he⟩ : ∃ s, s = (am_sI σ26 163 (am_up (σ26.1 163) ((24 + (4 * k)) + 0) (D 161 ((4 * k) + 0)))) := ⟨_, rfl⟩
    rw [← he]
    have hf27 : fp_ [162, 163] [56] [] σ0 σ27 := by rw [he]; exact fp_sI hf26 (by decide) (by decide)
    have h16327 : σ27.1 163 = (am_up (am_up (am_up (am_up (am_up (lyt_ T D g f s k).1 k (D 160 k)) (6 + k) (dr_ T q (((z * 137 + 71) % 1000 : Nat) : Int))) (12 + k) 0) (18 + k) (-1)) ((24 + (4 * k)) + 0) (D 161 ((4 * k) + 0))) := by rw [he, sI_at, h16326]
    have h16227 : σ27.1 162 = (am_up (lyt_ T D g f s k).2.1 k ((q : Nat) : Int)) := by rw [he, sI_ne (by decide), h16226]
    have h5627 : σ27.1 135 56 = ((((z * 137 + 71) % 1000) : Nat) : Int) := by rw [he, sI_ne (by decide), h5626]
    clear he
    refine ax_iinc (q := 154) (z' := ((1 : Nat) : Int)) (L' := [some (am_R 135), some (am_I ((k : Nat) : Int)), some (am_I ((1 : Nat) : Int))]) rfl rfl rfl rfl (am_we (by omega) (by omega) (by omega)) rfl ?_
    refine ax_goto (x := 123) rfl ?_
    refine ax_load (q := 124) rfl rfl rfl rfl rfl ?_
    refine ax_const (q := 125) (v := am_I 4) rfl rfl rfl ?_
    refine ax_icmp_ge (q := 128) (x := 157) rfl rfl (fun h => absurd h (by omega)) (fun h125 => ?_)
    refine ax_load (q := 129) rfl rfl rfl rfl rfl ?_
    refine ax_getf (q := 132) (v := am_R 163) rfl rfl (rfl) ?_
    refine ax_const (q := 134) (v := am_I 24) rfl rfl rfl ?_
    refine ax_const (q := 135) (v := am_I 4) rfl rfl rfl ?_
    refine ax_load (q := 136) rfl rfl rfl rfl rfl ?_
    refine ax_imul (q := 137) (z := ((4 * k : Nat) : Int)) rfl rfl (am_we (by omega) (by omega) (by omega)) ?_
    refine ax_iadd (q := 138) (z := ((24 + (4 * k) : Nat) : Int)) rfl rfl (am_we (by omega) (by omega) (by omega)) ?_
    refine ax_load (q := 139) rfl rfl rfl rfl rfl ?_
    refine ax_iadd (q := 140) (z := (((24 + (4 * k)) + 1 : Nat) : Int)) rfl rfl (am_we (by omega) (by omega) (by omega)) ?_
    refine ax_load (q := 141) rfl rfl rfl rfl rfl ?_
    refine ax_getf (q := 144) (v := am_R 161) rfl rfl (rfl) ?_
    refine ax_const (q := 145) (v := am_I 4) rfl rfl rfl ?_
    refine ax_load (q := 146) rfl rfl rfl rfl rfl ?_
    refine ax_imul (q := 147) (z := ((4 * k : Nat) : Int)) rfl rfl (am_we (by omega) (by omega) (by omega)) ?_
    refine ax_load (q := 148) rfl rfl rfl rfl rfl ?_
    refine ax_iadd (q := 149) (z := (((4 * k) + 1 : Nat) : Int)) rfl rfl (am_we (by omega) (by omega) (by omega)) ?_
    refine bx_iald (q := 150) (k := (4 * k) + 1) (z := D 161 ((4 * k) + 1)) rfl rfl (rfl) (by omega) (by omega) (congrFun ((hf27.1 161 (by decide) (by decide)).trans (hR.1 161 (by decide))) _) ?_
    refine bx_iast (q := 151) (k := (24 + (4 * k)) + 1) rfl rfl (rfl) (by omega) (by omega) ?_
    obtain ⟨σ28, he⟩ : ∃ s, s = (am_sI σ27 163 (am_up (σ27.1 163) ((24 + (4 * k)) + 1) (D 161 ((4 * k) + 1)))) := ⟨_, rfl⟩
    rw [← he]
    have hf28 : fp_ [162, 163] [56] [] σ0 σ28 := by rw [he]; exact fp_sI hf27 (by decide) (by decide)
    have h16328 : σ28.1 163 = (am_up (am_up (am_up (am_up (am_up (am_up (lyt_ T D g f s k).1 k (D 160 k)) (6 + k) (dr_ T q (((z * 137 + 71) % 1000 : Nat) : Int))) (12 + k) 0) (18 + k) (-1)) ((24 + (4 * k)) + 0) (D 161 ((4 * k) + 0))) ((24 + (4 * k)) + 1) (D 161 ((4 * k) + 1))) := by rw [he, sI_at, h16327]
    have h16228 : σ28.1 162 = (am_up (lyt_ T D g f s k).2.1 k ((q : Nat) : Int)) := by rw [he, sI_ne (by decide), h16227]
    have h5628 : σ28.1 135 56 = ((((z * 137 + 71) % 1000) : Nat) : Int) := by rw [he, sI_ne (by decide), h5627]
    clear he
    refine ax_iinc (q := 154) (z' := ((2 : Nat) : Int)) (L' := [some (am_R 135), some (am_I ((k : Nat) : Int)), some (am_I ((2 : Nat) : Int))]) rfl rfl rfl rfl (am_we (by omega) (by omega) (by omega)) rfl ?_
    refine ax_goto (x := 123) rfl ?_
    refine ax_load (q := 124) rfl rfl rfl rfl rfl ?_
    refine ax_const (q := 125) (v := am_I 4) rfl rfl rfl ?_
    refine ax_icmp_ge (q := 128) (x := 157) rfl rfl (fun h => absurd h (by omega)) (fun h125 => ?_)
    refine ax_load (q := 129) rfl rfl rfl rfl rfl ?_
    refine ax_getf (q := 132) (v := am_R 163) rfl rfl (rfl) ?_
    refine ax_const (q := 134) (v := am_I 24) rfl rfl rfl ?_
    refine ax_const (q := 135) (v := am_I 4) rfl rfl rfl ?_
    refine ax_load (q := 136) rfl rfl rfl rfl rfl ?_
    refine ax_imul (q := 137) (z := ((4 * k : Nat) : Int)) rfl rfl (am_we (by omega) (by omega) (by omega)) ?_
    refine ax_iadd (q := 138) (z := ((24 + (4 * k) : Nat) : Int)) rfl rfl (am_we (by omega) (by omega) (by omega)) ?_
    refine ax_load (q := 139) rfl rfl rfl rfl rfl ?_
    refine ax_iadd (q := 140) (z := (((24 + (4 * k)) + 2 : Nat) : Int)) rfl rfl (am_we (by omega) (by omega) (by omega)) ?_
    refine ax_load (q := 141) rfl rfl rfl rfl rfl ?_
    refine ax_getf (q := 144) (v := am_R 161) rfl rfl (rfl) ?_
    refine ax_const (q := 145) (v := am_I 4) rfl rfl rfl ?_
    refine ax_load (q := 146) rfl rfl rfl rfl rfl ?_
    refine ax_imul (q := 147) (z := ((4 * k : Nat) : Int)) rfl rfl (am_we (by omega) (by omega) (by omega)) ?_
    refine ax_load (q := 148) rfl rfl rfl rfl rfl ?_
    refine ax_iadd (q := 149) (z := (((4 * k) + 2 : Nat) : Int)) rfl rfl (am_we (by omega) (by omega) (by omega)) ?_
    refine bx_iald (q := 150) (k := (4 * k) + 2) (z := D 161 ((4 * k) + 2)) rfl rfl (rfl) (by omega) (by omega) (congrFun ((hf28.1 161 (by decide) (by decide)).trans (hR.1 161 (by decide))) _) ?_
    refine bx_iast (q := 151) (k := (24 + (4 * k)) + 2) rfl rfl (rfl) (by omega) (by omega) ?_
    obtain ⟨σ29, he⟩ : ∃ s, s = (am_sI σ28 163 (am_up (σ28.1 163) ((24 + (4 * k)) + 2) (D 161 ((4 * k) + 2)))) := ⟨_, rfl⟩
    rw [← he]
    have hf29 : fp_ [162, 163] [56] [] σ0 σ29 := by rw [he]; exact fp_sI hf28 (by decide) (by decide)
    have h16329 : σ29.1 163 = (am_up (am_up (am_up (am_up (am_up (am_up (am_up (lyt_ T D g f s k).1 k (D 160 k)) (6 + k) (dr_ T q (((z * 137 + 71) % 1000 : Nat) : Int))) (12 + k) 0) (18 + k) (-1)) ((24 + (4 * k)) + 0) (D 161 ((4 * k) + 0))) ((24 + (4 * k)) + 1) (D 161 ((4 * k) + 1))) ((24 + (4 * k)) + 2) (D 161 ((4 * k) + 2))) := by rw [he, sI_at, h16328]
    have h16229 : σ29.1 162 = (am_up (lyt_ T D g f s k).2.1 k ((q : Nat) : Int)) := by rw [he, sI_ne (by decide), h16228]
    have h5629 : σ29.1 135 56 = ((((z * 137 + 71) % 1000) : Nat) : Int) := by rw [he, sI_ne (by decide), h5628]
    clear he
    refine ax_iinc (q := 154) (z' := ((3 : Nat) : Int)) (L' := [some (am_R 135), some (am_I ((k : Nat) : Int)), some (am_I ((3 : Nat) : Int))]) rfl rfl rfl rfl (am_we (by omega) (by omega) (by omega)) rfl ?_
    refine ax_goto (x := 123) rfl ?_
    refine ax_load (q := 124) rfl rfl rfl rfl rfl ?_
    refine ax_const (q := 125) (v := am_I 4) rfl rfl rfl ?_
    refine ax_icmp_ge (q := 128) (x := 157) rfl rfl (fun h => absurd h (by omega)) (fun h125 => ?_)
    refine ax_load (q := 129) rfl rfl rfl rfl rfl ?_
    refine ax_getf (q := 132) (v := am_R 163) rfl rfl (rfl) ?_
    refine ax_const (q := 134) (v := am_I 24) rfl rfl rfl ?_
    refine ax_const (q := 135) (v := am_I 4) rfl rfl rfl ?_
    refine ax_load (q := 136) rfl rfl rfl rfl rfl ?_
    refine ax_imul (q := 137) (z := ((4 * k : Nat) : Int)) rfl rfl (am_we (by omega) (by omega) (by omega)) ?_
    refine ax_iadd (q := 138) (z := ((24 + (4 * k) : Nat) : Int)) rfl rfl (am_we (by omega) (by omega) (by omega)) ?_
    refine ax_load (q := 139) rfl rfl rfl rfl rfl ?_
    refine ax_iadd (q := 140) (z := (((24 + (4 * k)) + 3 : Nat) : Int)) rfl rfl (am_we (by omega) (by omega) (by omega)) ?_
    refine ax_load (q := 141) rfl rfl rfl rfl rfl ?_
    refine ax_getf (q := 144) (v := am_R 161) rfl rfl (rfl) ?_
    refine ax_const (q := 145) (v := am_I 4) rfl rfl rfl ?_
    refine ax_load (q := 146) rfl rfl rfl rfl rfl ?_
    refine ax_imul (q := 147) (z := ((4 * k : Nat) : Int)) rfl rfl (am_we (by omega) (by omega) (by omega)) ?_
    refine ax_load (q := 148) rfl rfl rfl rfl rfl ?_
    refine ax_iadd (q := 149) (z := (((4 * k) + 3 : Nat) : Int)) rfl rfl (am_we (by omega) (by omega) (by omega)) ?_
    refine bx_iald (q := 150) (k := (4 * k) + 3) (z := D 161 ((4 * k) + 3)) rfl rfl (rfl) (by omega) (by omega) (congrFun ((hf29.1 161 (by decide) (by decide)).trans (hR.1 161 (by decide))) _) ?_
    refine bx_iast (q := 151) (k := (24 + (4 * k)) + 3) rfl rfl (rfl) (by omega) (by omega) ?_
    obtain ⟨σ30, he⟩ : ∃ s, s = (am_sI σ29 163 (am_up (σ29.1 163) ((24 + (4 * k)) + 3) (D 161 ((4 * k) + 3)))) := ⟨_, rfl⟩
    rw [← he]
    have hf30 : fp_ [162, 163] [56] [] σ0 σ30 := by rw [he]; exact fp_sI hf29 (by decide) (by decide)
    have h16330 : σ30.1 163 = (am_up (am_up (am_up (am_up (am_up (am_up (am_up (am_up (lyt_ T D g f s k).1 k (D 160 k)) (6 + k) (dr_ T q (((z * 137 + 71) % 1000 : Nat) : Int))) (12 + k) 0) (18 + k) (-1)) ((24 + (4 * k)) + 0) (D 161 ((4 * k) + 0))) ((24 + (4 * k)) + 1) (D 161 ((4 * k) + 1))) ((24 + (4 * k)) + 2) (D 161 ((4 * k) + 2))) ((24 + (4 * k)) + 3) (D 161 ((4 * k) + 3))) := by rw [he, sI_at, h16329]
    have h16230 : σ30.1 162 = (am_up (lyt_ T D g f s k).2.1 k ((q : Nat) : Int)) := by rw [he, sI_ne (by decide), h16229]
    have h5630 : σ30.1 135 56 = ((((z * 137 + 71) % 1000) : Nat) : Int) := by rw [he, sI_ne (by decide), h5629]
    clear he
    refine ax_iinc (q := 154) (z' := ((4 : Nat) : Int)) (L' := [some (am_R 135), some (am_I ((k : Nat) : Int)), some (am_I ((4 : Nat) : Int))]) rfl rfl rfl rfl (am_we (by omega) (by omega) (by omega)) rfl ?_
    refine ax_goto (x := 123) rfl ?_
    refine ax_load (q := 124) rfl rfl rfl rfl rfl ?_
    refine ax_const (q := 125) (v := am_I 4) rfl rfl rfl ?_
    refine ax_icmp_ge (q := 128) (x := 157) rfl rfl (fun h125 => ?_) (fun h => absurd h (by omega))
    refine ax_iinc (q := 160) (z' := ((k + 1 : Nat) : Int)) (L' := [some (am_R 135), some (am_I ((k + 1 : Nat) : Int)), some (am_I ((4 : Nat) : Int))]) rfl rfl rfl rfl (am_we (by omega) (by omega) (by omega)) rfl ?_
    refine ax_goto (x := 31) rfl ?_
    refine ih (k + 1) _ _ (by omega) hf30 ?_ ?_ ?_
    · rw [h16330]
      show _ = am_up _ _ _
      rw [← hz, hq]
      rfl
    · rw [h16230]
      show _ = am_up _ _ _
      rw [hq]
    · rw [h5630, hz]
      rfl

theorem m_layTown {d : Nat} (hd : 3 ≤ d) {σ : am_S} {T D : sp_T} (hV : TV_ T) {nS nO nR nU : Nat} (hD : DW_ D nS nO nR (nP_ T) nU) (hnR : nR = nR_ T) (hT : TO_ T σ) (hR : RS_ D σ) {s : Nat} (hs : D 135 49 = (s : Int)) (hs9 : s < 1000) {Q : Option am_V → am_S → Prop} (hQ : ∀ σ', fp_ [162, 163] [56] [] σ σ' → σ'.1 163 = (lyt_ T D (cp_ (fun _ => 0) (σ.1 163) 50) (σ.1 162) s (nP_ T)).1 → σ'.1 162 = (lyt_ T D (cp_ (fun _ => 0) (σ.1 163) 50) (σ.1 162) s (nP_ T)).2.1 → σ'.1 135 56 = (((lyt_ T D (cp_ (fun _ => 0) (σ.1 163) 50) (σ.1 162) s (nP_ T)).2.2 : Nat) : Int) → Q none σ') : am_Ev d 183 [am_R 135] σ Q := by
  obtain ⟨d, rfl⟩ : ∃ e, d = e + 1 := ⟨d - 1, by omega⟩
  refine ev_in (m := 183) (c := k_X9_layTown) (L := [some (am_R 135), none, none]) rfl rfl rfl rfl rfl rfl ?_
  refine ax_const (q := 1) (v := am_I 0) rfl rfl rfl ?_
  refine ax_store (q := 2) (L' := [some (am_R 135), some (am_I 0), none]) rfl rfl rfl rfl rfl rfl ?_
  refine l_layZ (σ0 := σ) (fun σ1 hf1 h163 => ?_) 50 0 σ (by omega) (fp_rf _ _ _ _) (cp_0 _ _).symm
  refine ax_load (q := 22) rfl rfl rfl rfl rfl ?_
  refine ax_load (q := 23) rfl rfl rfl rfl rfl ?_
  refine ax_getf (q := 26) (v := am_I ((s : Nat) : Int)) rfl rfl (am_fg rfl (((hf1.2.1 49 (by decide)).trans (hR.2.1 49 (by decide))).trans hs)) ?_
  refine ax_putf (q := 29) rfl rfl rfl ?_
  refine ax_const (q := 30) (v := am_I 0) rfl rfl rfl ?_
  refine ax_store (q := 31) (L' := [some (am_R 135), some (am_I 0), none]) rfl rfl rfl rfl rfl rfl ?_
  have hf2 : fp_ [163] [56] [] σ (am_sI σ1 135 (am_up (σ1.1 135) 56 ((s : Nat) : Int))) := fp_s5 (fp_tr (fp_rf _ _ _ _) hf1 (by decide) (by decide) (by decide)) (by decide)
  have hT2 : TO_ T (am_sI σ1 135 (am_up (σ1.1 135) 56 ((s : Nat) : Int))) := ⟨(hf2.1 158 (by decide) (by decide)).trans hT.a158, (hf2.2.1 51 (by decide)).trans hT.s51, (hf2.2.1 53 (by decide)).trans hT.s53⟩
  have hR2 : RS_ D (am_sI σ1 135 (am_up (σ1.1 135) 56 ((s : Nat) : Int))) := RS_.fr hR hf2 (by decide) (by decide)
  refine l_layP (by omega) hV hD hnR hT2 hR2 hs9 (g := cp_ (fun _ => 0) (σ.1 163) 50) (f := σ.1 162) (fun σ3 x2 hf3 a1 a2 a3 => ?_) (nP_ T) 0 _ _ (by omega) (fp_rf _ _ _ _) (by rw [sI_ne (by decide)]; exact h163) (by rw [sI_ne (by decide)]; exact hf1.1 162 (by decide) (by decide)) (by rw [sI_at, am_up_same]; rfl)
  refine ax_ret (r := none) rfl rfl ?_
  exact hQ σ3 (fp_tr (fp_tr (fp_rf _ _ _ _) hf2 (by decide) (by decide) (by decide)) hf3 (by decide) (by decide) (by decide)) a1 a2 a3

