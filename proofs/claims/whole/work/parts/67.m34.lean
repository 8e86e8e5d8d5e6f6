theorem PS_sI {tp : Nat → Int} {n p : Nat} {σ : am_S} (h : PS_ tp n p σ) {a : Nat} {f : Nat → Int} (h5 : 135 ≠ a) (h6 : 136 ≠ a) : PS_ tp n p (am_sI σ a f) := by
  obtain ⟨⟨a1, a2, a3, a4, a5⟩, b1, b2, b3, b4, b5⟩ := h
  exact ⟨⟨by rw [sI_ne h5]; exact a1, by rw [sI_ne h5]; exact a2, by rw [sI_ne h5]; exact a3, by rw [sI_ne h5]; exact a4, a5⟩, by rw [sI_ne h6]; exact b1, by rw [sI_ne h5]; exact b2, b3, b4, by rw [sI_ne h5]; exact b5⟩

theorem r_openUp {d : Nat} (hd : 3 ≤ d) {σ : am_S} {tp : Nat → Int} {n p : Nat} (hP : PS_ tp n p σ) (h02 : σ.1 135 2 = 0) {m : Nat} (hm : σ.1 135 19 = (m : Int)) (hm9 : m < 160) {dp : Int} (hdp : σ.1 135 23 = dp) (hd1 : -1000 ≤ dp) (hd2 : dp ≤ 1000) {x : Int} {Q : Option am_V → am_S → Prop} (hQ : ∀ σ', fp_ [142] (19 :: 23 :: pf_) [] σ σ' → PS_ tp n (nxp_ tp n p) σ' → σ'.1 135 2 = 0 → σ'.1 142 = am_up (σ.1 142) m x → σ'.1 135 19 = ((m + 1 : Nat) : Int) → σ'.1 135 23 = dp + 1 → Q none σ') : am_Ev d 166 [am_R 135, am_I x] σ Q := by
  obtain ⟨d, rfl⟩ : ∃ e, d = e + 1 := ⟨d - 1, by omega⟩
  refine ev_in (m := 166) (c := k_X9_openUp) (L := [some (am_R 135), some (am_I x)]) rfl rfl rfl rfl rfl rfl ?_
  refine ax_load (q := 1) rfl rfl rfl rfl rfl ?_
  refine ax_getf (q := 4) (v := am_R 142) rfl rfl (rfl) ?_
  refine ax_load (q := 5) rfl rfl rfl rfl rfl ?_
  refine ax_getf (q := 8) (v := am_I ((m : Nat) : Int)) rfl rfl (am_fg rfl (by first | exact hm | (rw [sI_ne (by decide)]; exact hm))) ?_
  refine ax_load (q := 9) rfl rfl rfl rfl rfl ?_
  refine bx_iast (q := 10) (k := m) rfl rfl (rfl) (by omega) (by omega) ?_
  refine ax_load (q := 11) rfl rfl rfl rfl rfl ?_
  refine ax_dup (q := 12) rfl rfl rfl ?_
  refine ax_getf (q := 15) (v := am_I ((m : Nat) : Int)) rfl rfl (am_fg rfl (by first | exact hm | (rw [sI_ne (by decide)]; exact hm))) ?_
  refine ax_const (q := 16) (v := am_I 1) rfl rfl rfl ?_
  refine ax_iadd (q := 17) (z := ((m + 1 : Nat) : Int)) rfl rfl (am_we (by omega) (by omega) (by omega)) ?_
  refine ax_putf (q := 20) rfl rfl rfl ?_
  refine ax_load (q := 21) rfl rfl rfl rfl rfl ?_
  refine ax_dup (q := 22) rfl rfl rfl ?_
  refine ax_getf (q := 25) (v := am_I dp) rfl rfl (am_fg rfl (by simp [am_sI, am_up, hdp])) ?_
  refine ax_const (q := 26) (v := am_I 1) rfl rfl rfl ?_
  refine ax_iadd (q := 27) (z := dp + 1) rfl rfl (am_we (by omega) (by omega) (by omega)) ?_
  refine ax_putf (q := 30) rfl rfl rfl ?_
  refine ax_load (q := 31) rfl rfl rfl rfl rfl ?_
  refine ax_getf (q := 34) (v := am_I 0) rfl rfl (am_fg rfl (by simp [am_sI, am_up, h02])) ?_
  refine ax_if_ne (q := 37) (x := 41) rfl rfl (fun h => absurd h (by omega)) (fun h34 => ?_)
  refine ax_load (q := 38) rfl rfl rfl rfl rfl ?_
  refine ax_callv (q := 41) rfl rfl rfl rfl rfl rfl ?_
  have hfr : fp_ [142] (19 :: 23 :: pf_) [] σ (am_sI (am_sI (am_sI σ 142 (am_up (σ.1 142) m x)) 135 (am_up ((am_sI σ 142 (am_up (σ.1 142) m x)).1 135) 19 ((m + 1 : Nat) : Int))) 135 (am_up ((am_sI (am_sI σ 142 (am_up (σ.1 142) m x)) 135 (am_up ((am_sI σ 142 (am_up (σ.1 142) m x)).1 135) 19 ((m + 1 : Nat) : Int))).1 135) 23 (dp + 1))) := (fp_s5 (fp_s5 (fp_sI (fp_rf _ _ _ _) (by decide) (by decide)) (by decide)) (by decide))
  have e2 : ((am_sI (am_sI (am_sI σ 142 (am_up (σ.1 142) m x)) 135 (am_up ((am_sI σ 142 (am_up (σ.1 142) m x)).1 135) 19 ((m + 1 : Nat) : Int))) 135 (am_up ((am_sI (am_sI σ 142 (am_up (σ.1 142) m x)) 135 (am_up ((am_sI σ 142 (am_up (σ.1 142) m x)).1 135) 19 ((m + 1 : Nat) : Int))).1 135) 23 (dp + 1)))).1 135 2 = 0 := by simp [am_sI, am_up, h02]
  have e3 : ((am_sI (am_sI (am_sI σ 142 (am_up (σ.1 142) m x)) 135 (am_up ((am_sI σ 142 (am_up (σ.1 142) m x)).1 135) 19 ((m + 1 : Nat) : Int))) 135 (am_up ((am_sI (am_sI σ 142 (am_up (σ.1 142) m x)) 135 (am_up ((am_sI σ 142 (am_up (σ.1 142) m x)).1 135) 19 ((m + 1 : Nat) : Int))).1 135) 23 (dp + 1)))).1 142 = am_up (σ.1 142) m x := by simp [am_sI, am_up]
  have e4 : ((am_sI (am_sI (am_sI σ 142 (am_up (σ.1 142) m x)) 135 (am_up ((am_sI σ 142 (am_up (σ.1 142) m x)).1 135) 19 ((m + 1 : Nat) : Int))) 135 (am_up ((am_sI (am_sI σ 142 (am_up (σ.1 142) m x)) 135 (am_up ((am_sI σ 142 (am_up (σ.1 142) m x)).1 135) 19 ((m + 1 : Nat) : Int))).1 135) 23 (dp + 1)))).1 135 19 = ((m + 1 : Nat) : Int) := by simp [am_sI, am_up]
  have e5 : ((am_sI (am_sI (am_sI σ 142 (am_up (σ.1 142) m x)) 135 (am_up ((am_sI σ 142 (am_up (σ.1 142) m x)).1 135) 19 ((m + 1 : Nat) : Int))) 135 (am_up ((am_sI (am_sI σ 142 (am_up (σ.1 142) m x)) 135 (am_up ((am_sI σ 142 (am_up (σ.1 142) m x)).1 135) 19 ((m + 1 : Nat) : Int))).1 135) 23 (dp + 1)))).1 135 23 = dp + 1 := by simp [am_sI, am_up]
  refine m_tokenN (by omega) (PS_s5 (PS_s5 (PS_sI hP (by decide) (by decide)) (by decide)) (by decide)) (fun σ1 hf1 hP1 => ?_)
  refine ax_ret (r := none) rfl rfl ?_
  exact hQ _ (fp_tr hfr hf1 (by decide) (by decide) (by decide)) hP1 ((hf1.2.1 2 (by decide)).trans e2) ((hf1.1 142 (by decide) (by decide)).trans e3) ((hf1.2.1 19 (by decide)).trans e4) ((hf1.2.1 23 (by decide)).trans e5)

theorem z_openUp {d : Nat} (hd : 1 ≤ d) {σ : am_S} (h2 : 0 < σ.1 135 2) {m : Nat} (hm : σ.1 135 19 = (m : Int)) (hm9 : m < 160) {dp : Int} (hdp : σ.1 135 23 = dp) (hd1 : -1000 ≤ dp) (hd2 : dp ≤ 1000) {x : Int} {Q : Option am_V → am_S → Prop} (hQ : ∀ σ', fp_ [142] [19, 23] [] σ σ' → Q none σ') : am_Ev d 166 [am_R 135, am_I x] σ Q := by
  obtain ⟨d, rfl⟩ : ∃ e, d = e + 1 := ⟨d - 1, by omega⟩
  refine ev_in (m := 166) (c := k_X9_openUp) (L := [some (am_R 135), some (am_I x)]) rfl rfl rfl rfl rfl rfl ?_
  refine ax_load (q := 1) rfl rfl rfl rfl rfl ?_
  refine ax_getf (q := 4) (v := am_R 142) rfl rfl (rfl) ?_
  refine ax_load (q := 5) rfl rfl rfl rfl rfl ?_
  refine ax_getf (q := 8) (v := am_I ((m : Nat) : Int)) rfl rfl (am_fg rfl (by first | exact hm | (rw [sI_ne (by decide)]; exact hm))) ?_
  refine ax_load (q := 9) rfl rfl rfl rfl rfl ?_
  refine bx_iast (q := 10) (k := m) rfl rfl (rfl) (by omega) (by omega) ?_
  refine ax_load (q := 11) rfl rfl rfl rfl rfl ?_
  refine ax_dup (q := 12) rfl rfl rfl ?_
  refine ax_getf (q := 15) (v := am_I ((m : Nat) : Int)) rfl rfl (am_fg rfl (by first | exact hm | (rw [sI_ne (by decide)]; exact hm))) ?_
  refine ax_const (q := 16) (v := am_I 1) rfl rfl rfl ?_
  refine ax_iadd (q := 17) (z := ((m + 1 : Nat) : Int)) rfl rfl (am_we (by omega) (by omega) (by omega)) ?_
  refine ax_putf (q := 20) rfl rfl rfl ?_
  refine ax_load (q := 21) rfl rfl rfl rfl rfl ?_
  refine ax_dup (q := 22) rfl rfl rfl ?_
  refine ax_getf (q := 25) (v := am_I dp) rfl rfl (am_fg rfl (by simp [am_sI, am_up, hdp])) ?_
  refine ax_const (q := 26) (v := am_I 1) rfl rfl rfl ?_
  refine ax_iadd (q := 27) (z := dp + 1) rfl rfl (am_we (by omega) (by omega) (by omega)) ?_
  refine ax_putf (q := 30) rfl rfl rfl ?_
  refine ax_load (q := 31) rfl rfl rfl rfl rfl ?_
  refine ax_getf (q := 34) (v := am_I (σ.1 135 2)) rfl rfl (am_fg rfl (by simp [am_sI, am_up])) ?_
  refine ax_if_ne (q := 37) (x := 41) rfl rfl (fun h34 => ?_) (fun h => absurd h (by omega))
  refine ax_ret (r := none) rfl rfl ?_
  exact hQ _ (fp_s5 (fp_s5 (fp_sI (fp_rf _ _ _ _) (by decide) (by decide)) (by decide)) (by decide))

theorem l_readParish {d : Nat} {σ : am_S} {k : Nat} (hk : σ.1 135 45 = (k : Int)) (hk3 : k < 3) {Q : Option am_V → am_S → Prop} (hQ : aW d 4 k_X9_readParish Q 47 [some (am_R 135), some (am_I ((8 : Nat) : Int))] [] (am_sI σ 157 (cd_ (fun _ => 0) (σ.1 157) (8 * k) 8))) : ∀ (m j : Nat), j + m = 8 → aW d 4 k_X9_readParish Q 20 [some (am_R 135), some (am_I ((j : Nat) : Int))] [] (am_sI σ 157 (cd_ (fun _ => 0) (σ.1 157) (8 * k) j)) := by
  intro m
  induction m with
  | zero =>
    intro j hj
    obtain rfl : j = 8 := by omega
    refine ax_load (q := 21) rfl rfl rfl rfl rfl ?_
    refine ax_const (q := 23) (v := am_I 8) rfl rfl rfl ?_
    refine ax_icmp_ge (q := 26) (x := 47) rfl rfl (fun h23 => ?_) (fun h => absurd h (by omega))
    exact hQ
  | succ m ih =>
    intro j hj
    refine ax_load (q := 21) rfl rfl rfl rfl rfl ?_
    refine ax_const (q := 23) (v := am_I 8) rfl rfl rfl ?_
    refine ax_icmp_ge (q := 26) (x := 47) rfl rfl (fun h => absurd h (by omega)) (fun h23 => ?_)
    refine ax_load (q := 27) rfl rfl rfl rfl rfl ?_
    refine ax_getf (q := 30) (v := am_R 157) rfl rfl (rfl) ?_
    refine ax_const (q := 32) (v := am_I 8) rfl rfl rfl ?_
    refine ax_load (q := 33) rfl rfl rfl rfl rfl ?_
    refine ax_getf (q := 36) (v := am_I ((k : Nat) : Int)) rfl rfl (am_fg rfl (by first | exact hk | (rw [sI_ne (by decide)]; exact hk))) ?_
    refine ax_imul (q := 37) (z := ((8 * k : Nat) : Int)) rfl rfl (am_we (by omega) (by omega) (by omega)) ?_
    refine ax_load (q := 38) rfl rfl rfl rfl rfl ?_
    refine ax_iadd (q := 39) (z := (((8 * k) + j : Nat) : Int)) rfl rfl (am_we (by omega) (by omega) (by omega)) ?_
    refine ax_const (q := 40) (v := am_I 0) rfl rfl rfl ?_
    refine bx_iast (q := 41) (k := (8 * k) + j) rfl rfl (rfl) (by omega) (by omega) ?_
    refine ax_iinc (q := 44) (z' := ((j + 1 : Nat) : Int)) (L' := [some (am_R 135), some (am_I ((j + 1 : Nat) : Int))]) rfl rfl rfl rfl (am_we (by omega) (by omega) (by omega)) rfl ?_
    refine ax_goto (x := 20) rfl ?_
    rw [sI_sI, sI_at]
    have g := ih (j + 1) (by omega)
    rw [← cd_step] at g
    exact g

theorem r_readParish {d : Nat} (hd : 4 ≤ d) {σ : am_S} {tp : Nat → Int} {n p : Nat} (hP : PS_ tp n p σ) (h02 : σ.1 135 2 = 0) {g : Nat → Int} (hg : σ.2.1 137 = g) {k : Nat} (hk : σ.1 135 45 = (k : Int)) (hk3 : k < 3) {Q : Option am_V → am_S → Prop} (hN : ∀ e, nwn_ tp n g 12 k p = Sum.inl e → ∀ σ', fp_ [] pf_ [] σ σ' → 0 < e.1 → FT_ tp n e σ' → Q none σ') (hY : ∀ p', nwn_ tp n g 12 k p = Sum.inr p' → ∀ σ', fp_ [157] (45 :: pf_) [137] σ σ' → σ'.1 135 2 = 0 → PS_ tp n p' σ' → σ'.2.1 137 = am_up g (12 + k) (tkw_ tp n (nxp_ tp n p)) → σ'.1 135 45 = ((k + 1 : Nat) : Int) → σ'.1 157 = cd_ (fun _ => 0) (σ.1 157) (8 * k) 8 → Q none σ') : am_Ev d 176 [am_R 135] σ Q := by
  obtain ⟨d, rfl⟩ : ∃ e, d = e + 1 := ⟨d - 1, by omega⟩
  refine ev_in (m := 176) (c := k_X9_readParish) (L := [some (am_R 135), none]) rfl rfl rfl rfl rfl rfl ?_
  refine ax_load (q := 1) rfl rfl rfl rfl rfl ?_
  refine ax_const (q := 3) (v := am_I 12) rfl rfl rfl ?_
  refine ax_load (q := 4) rfl rfl rfl rfl rfl ?_
  refine ax_getf (q := 7) (v := am_I ((k : Nat) : Int)) rfl rfl (am_fg rfl hk) ?_
  refine ax_callv (q := 10) rfl rfl rfl rfl rfl rfl ?_
  refine r_newName (b := 12) (by omega) hP h02 hg (by omega) (fun e he σ1 hf1 h0 hF => ?_) (fun p2 he σ1 hf1 h21 hP1 hg1 => ?_)
  · refine ax_load (q := 11) rfl rfl rfl rfl rfl ?_
    refine ax_getf (q := 14) (v := am_I (σ1.1 135 2)) rfl rfl (rfl) ?_
    refine ax_if_le (q := 17) (x := 18) rfl rfl (fun h => absurd h (by have := FT_pos hF h0; omega)) (fun h14 => ?_)
    refine ax_ret (r := none) rfl rfl ?_
    exact hN e he σ1 hf1 h0 hF
  · refine ax_load (q := 11) rfl rfl rfl rfl rfl ?_
    refine ax_getf (q := 14) (v := am_I (σ1.1 135 2)) rfl rfl (rfl) ?_
    refine ax_if_le (q := 17) (x := 18) rfl rfl (fun h14 => ?_) (fun h => absurd h (by omega))
    refine ax_const (q := 19) (v := am_I 0) rfl rfl rfl ?_
    refine ax_store (q := 20) (L' := [some (am_R 135), some (am_I 0)]) rfl rfl rfl rfl rfl rfl ?_
    have hk1 : σ1.1 135 45 = (k : Int) := by rw [hf1.2.1 45 (by decide)]; exact hk
    have q := l_readParish (d := d) (σ := σ1) hk1 hk3 (Q := Q) ?_ 8 0 (by omega)
    · rw [cd_0, sI_id] at q
      exact q
    refine ax_load (q := 48) rfl rfl rfl rfl rfl ?_
    refine ax_dup (q := 49) rfl rfl rfl ?_
    refine ax_getf (q := 52) (v := am_I ((k : Nat) : Int)) rfl rfl (am_fg rfl (by first | exact hk1 | (rw [sI_ne (by decide)]; exact hk1))) ?_
    refine ax_const (q := 53) (v := am_I 1) rfl rfl rfl ?_
    refine ax_iadd (q := 54) (z := ((k + 1 : Nat) : Int)) rfl rfl (am_we (by omega) (by omega) (by omega)) ?_
    refine ax_putf (q := 57) rfl rfl rfl ?_
    refine ax_ret (r := none) rfl rfl ?_
    exact hY p2 he _ (fp_s5 (fp_sI (fp_tr (fp_rf _ _ _ _) hf1 (by decide) (by decide) (by decide)) (by decide) (by decide)) (by decide)) (by rw [sI_at, am_up_ne (by decide), sI_ne (by decide)]; exact h21) (PS_s5 (PS_sI hP1 (by decide) (by decide)) (by decide)) hg1 (by rw [sI_at, am_up_same]) (by rw [sI_ne (by decide), sI_at, hf1.1 157 (by decide) (by decide)])

theorem old_in {tp : Nat → Int} {n : Nat} {g : Nat → Int} {b m p : Nat} {a : Int} {p' : Nat} (h : old_ tp n g b m p = Sum.inr (a, p')) : p' = p ∧ ∃ k : Nat, a = (k : Int) ∧ k < m := by
  have hb := fi_bd g (tkw_ tp n p) b m
  unfold old_ at h
  split at h
  · cases h
  · split at h
    · cases h
    · injection h with h
      injection h with h1 h2
      exact ⟨h2.symm, a.toNat, by omega, by omega⟩
/-- what a line of odds tells: the place and its chances -/
def odd_ (tp : Nat → Int) (n : Nat) (g f : Nat → Int) (nR nO p : Nat) : sp_R × Nat := match old_ tp n g 12 nR (nxp_ tp n p) with
  | Sum.inl e => (Sum.inl e, 0)
  | Sum.inr (a, _) => match old_ tp n g 4 nO (nxp_ tp n (nxp_ tp n p)) with
    | Sum.inl e => (Sum.inl e, 0)
    | Sum.inr (b, _) => if 0 < f (8 * a.toNat + b.toNat) then (Sum.inl (3, nxp_ tp n (nxp_ tp n p)), 0) else (num_ tp n 1 9 (nxp_ tp n (nxp_ tp n (nxp_ tp n p))), 8 * a.toNat + b.toNat)

theorem r_readOdds {d : Nat} (hd : 5 ≤ d) {σ : am_S} {tp : Nat → Int} {n p : Nat} (hP : PS_ tp n p σ) (h02 : σ.1 135 2 = 0) {g f : Nat → Int} (hg : σ.2.1 137 = g) (hf157 : σ.1 157 = f) {nR nO : Nat} (hnR : σ.1 135 45 = (nR : Int)) (hnO : σ.1 135 44 = (nO : Int)) (hR3 : nR ≤ 3) (hO8 : nO ≤ 8) {Q : Option am_V → am_S → Prop} (hN : ∀ e, (odd_ tp n g f nR nO p).1 = Sum.inl e → ∀ σ', fp_ [] pf_ [] σ σ' → 0 < e.1 → FT_ tp n e σ' → Q none σ') (hY : ∀ v p', (odd_ tp n g f nR nO p).1 = Sum.inr (v, p') → ∀ σ', fp_ [157] pf_ [] σ σ' → σ'.1 135 2 = 0 → PS_ tp n p' σ' → σ'.1 157 = am_up f (odd_ tp n g f nR nO p).2 v → Q none σ') : am_Ev d 177 [am_R 135] σ Q := by
  obtain ⟨d, rfl⟩ : ∃ e, d = e + 1 := ⟨d - 1, by omega⟩
  refine ev_in (m := 177) (c := k_X9_readOdds) (L := [some (am_R 135), none, none, none]) rfl rfl rfl rfl rfl rfl ?_
  refine ax_load (q := 1) rfl rfl rfl rfl rfl ?_
  refine ax_callv (q := 4) rfl rfl rfl rfl rfl rfl ?_
  refine m_tokenN (by omega) hP (fun σa hka hPa => ?_)
  have hfa : fp_ [] pf_ [] σ σa := fp_tr (fp_rf [] pf_ [] σ) hka (by decide) (by decide) (by decide)
  have h2a : σa.1 135 2 = 0 := (hka.2.1 2 (by decide)).trans h02
  have hga : σa.2.1 137 = g := (hka.2.2.1 137 (by decide) (by decide)).trans hg
  refine ax_load (q := 5) rfl rfl rfl rfl rfl ?_
  refine ax_const (q := 7) (v := am_I 12) rfl rfl rfl ?_
  refine ax_load (q := 8) rfl rfl rfl rfl rfl ?_
  refine ax_getf (q := 11) (v := am_I ((nR : Nat) : Int)) rfl rfl (am_fg rfl (((hfa).2.1 45 (by decide)).trans hnR)) ?_
  refine ax_callv (q := 14) rfl rfl rfl rfl rfl rfl ?_
  refine r_oldName (b := 12) (m := nR) (by omega) hPa h2a hga (by omega) ⟨fun e he x1 v hk h0 hF => ?_, fun aA pA heA σ1 hk h21 hP1 => ?_⟩
  · have hbad := FT_pos hF h0
    have hfx : fp_ [] pf_ [] σ x1 := fp_tr hfa hk (by decide) (by decide) (by decide)
    have hres : (odd_ tp n g f nR nO p).1 = Sum.inl e := by unfold odd_; rw [he]
    refine ax_store (q := 15) (L' := [some (am_R 135), some (am_I v), none, none]) rfl rfl rfl rfl rfl rfl ?_
    refine ax_load (q := 16) rfl rfl rfl rfl rfl ?_
    refine ax_getf (q := 19) (v := am_I (x1.1 135 2)) rfl rfl (rfl) ?_
    refine ax_if_ne (q := 22) (x := 26) rfl rfl (fun h19 => ?_) (fun h => absurd h (by omega))
    refine ax_load (q := 27) rfl rfl rfl rfl rfl ?_
    refine ax_const (q := 28) (v := am_I 4) rfl rfl rfl ?_
    refine ax_load (q := 29) rfl rfl rfl rfl rfl ?_
    refine ax_getf (q := 32) (v := am_I ((nO : Nat) : Int)) rfl rfl (am_fg rfl (((hfx).2.1 44 (by decide)).trans hnO)) ?_
    refine ax_callv (q := 35) rfl rfl rfl rfl rfl rfl ?_
    refine z_oldName (by omega) hbad ?_
    refine ax_store (q := 36) (L' := [some (am_R 135), some (am_I v), some (am_I 0), none]) rfl rfl rfl rfl rfl rfl ?_
    refine ax_load (q := 37) rfl rfl rfl rfl rfl ?_
    refine ax_getf (q := 40) (v := am_I (x1.1 135 2)) rfl rfl (rfl) ?_
    refine ax_if_ne (q := 43) (x := 62) rfl rfl (fun h40 => ?_) (fun h => absurd h (by omega))
    refine ax_load (q := 63) rfl rfl rfl rfl rfl ?_
    refine ax_getf (q := 66) (v := am_I (x1.1 135 2)) rfl rfl (rfl) ?_
    refine ax_if_ne (q := 69) (x := 73) rfl rfl (fun h66 => ?_) (fun h => absurd h (by omega))
    refine ax_load (q := 74) rfl rfl rfl rfl rfl ?_
    refine ax_const (q := 75) (v := am_I 1) rfl rfl rfl ?_
    refine ax_const (q := 77) (v := am_I 9) rfl rfl rfl ?_
    refine ax_callv (q := 80) rfl rfl rfl rfl rfl rfl ?_
    refine z_toldNumber (by omega) hbad ?_
    refine ax_store (q := 81) (L' := [some (am_R 135), some (am_I v), some (am_I 0), some (am_I 0)]) rfl rfl rfl rfl rfl rfl ?_
    refine ax_load (q := 82) rfl rfl rfl rfl rfl ?_
    refine ax_getf (q := 85) (v := am_I (x1.1 135 2)) rfl rfl (rfl) ?_
    refine ax_if_ne (q := 88) (x := 100) rfl rfl (fun h85 => ?_) (fun h => absurd h (by omega))
    refine ax_ret (r := none) rfl rfl ?_
    exact hN _ hres x1 hfx h0 hF
  · obtain ⟨rfl, A, rfl, hlA⟩ := old_in heA
    have hf1 : fp_ [] pf_ [] σ σ1 := fp_tr hfa hk (by decide) (by decide) (by decide)
    have hg1 : σ1.2.1 137 = g := (hk.2.2.1 137 (by decide) (by decide)).trans hga
    refine ax_store (q := 15) (L' := [some (am_R 135), some (am_I ((A : Nat) : Int)), none, none]) rfl rfl rfl rfl rfl rfl ?_
    refine ax_load (q := 16) rfl rfl rfl rfl rfl ?_
    refine ax_getf (q := 19) (v := am_I 0) rfl rfl (am_fg rfl h21) ?_
    refine ax_if_ne (q := 22) (x := 26) rfl rfl (fun h => absurd h (by omega)) (fun h19 => ?_)
    refine ax_load (q := 23) rfl rfl rfl rfl rfl ?_
    refine ax_callv (q := 26) rfl rfl rfl rfl rfl rfl ?_
    refine m_tokenN (by omega) hP1 (fun σb hkb hPb => ?_)
    have hfb : fp_ [] pf_ [] σ σb := fp_tr (hf1) hkb (by decide) (by decide) (by decide)
    have h2b : σb.1 135 2 = 0 := (hkb.2.1 2 (by decide)).trans h21
    have hgb : σb.2.1 137 = g := (hkb.2.2.1 137 (by decide) (by decide)).trans hg1
    refine ax_load (q := 27) rfl rfl rfl rfl rfl ?_
    refine ax_const (q := 28) (v := am_I 4) rfl rfl rfl ?_
    refine ax_load (q := 29) rfl rfl rfl rfl rfl ?_
    refine ax_getf (q := 32) (v := am_I ((nO : Nat) : Int)) rfl rfl (am_fg rfl (((hfb).2.1 44 (by decide)).trans hnO)) ?_
    refine ax_callv (q := 35) rfl rfl rfl rfl rfl rfl ?_
    refine r_oldName (b := 4) (m := nO) (by omega) hPb h2b hgb (by omega) ⟨fun e he x2 v hk h0 hF => ?_, fun aB pB heB σ2 hk h22 hP2 => ?_⟩
    · have hbad := FT_pos hF h0
      have hfx : fp_ [] pf_ [] σ x2 := fp_tr hfb hk (by decide) (by decide) (by decide)
      have hres : (odd_ tp n g f nR nO p).1 = Sum.inl e := by unfold odd_; rw [heA, he]
      refine ax_store (q := 36) (L' := [some (am_R 135), some (am_I ((A : Nat) : Int)), some (am_I v), none]) rfl rfl rfl rfl rfl rfl ?_
      refine ax_load (q := 37) rfl rfl rfl rfl rfl ?_
      refine ax_getf (q := 40) (v := am_I (x2.1 135 2)) rfl rfl (rfl) ?_
      refine ax_if_ne (q := 43) (x := 62) rfl rfl (fun h40 => ?_) (fun h => absurd h (by omega))
      refine ax_load (q := 63) rfl rfl rfl rfl rfl ?_
      refine ax_getf (q := 66) (v := am_I (x2.1 135 2)) rfl rfl (rfl) ?_
      refine ax_if_ne (q := 69) (x := 73) rfl rfl (fun h66 => ?_) (fun h => absurd h (by omega))
      refine ax_load (q := 74) rfl rfl rfl rfl rfl ?_
      refine ax_const (q := 75) (v := am_I 1) rfl rfl rfl ?_
      refine ax_const (q := 77) (v := am_I 9) rfl rfl rfl ?_
      refine ax_callv (q := 80) rfl rfl rfl rfl rfl rfl ?_
      refine z_toldNumber (by omega) hbad ?_
      refine ax_store (q := 81) (L' := [some (am_R 135), some (am_I ((A : Nat) : Int)), some (am_I v), some (am_I 0)]) rfl rfl rfl rfl rfl rfl ?_
      refine ax_load (q := 82) rfl rfl rfl rfl rfl ?_
      refine ax_getf (q := 85) (v := am_I (x2.1 135 2)) rfl rfl (rfl) ?_
      refine ax_if_ne (q := 88) (x := 100) rfl rfl (fun h85 => ?_) (fun h => absurd h (by omega))
      refine ax_ret (r := none) rfl rfl ?_
      exact hN _ hres x2 hfx h0 hF
    · obtain ⟨rfl, B, rfl, hlB⟩ := old_in heB
      have hf2 : fp_ [] pf_ [] σ σ2 := fp_tr hfb hk (by decide) (by decide) (by decide)
      have hg2 : σ2.2.1 137 = g := (hk.2.2.1 137 (by decide) (by decide)).trans hgb
      refine ax_store (q := 36) (L' := [some (am_R 135), some (am_I ((A : Nat) : Int)), some (am_I ((B : Nat) : Int)), none]) rfl rfl rfl rfl rfl rfl ?_
      refine ax_load (q := 37) rfl rfl rfl rfl rfl ?_
      refine ax_getf (q := 40) (v := am_I 0) rfl rfl (am_fg rfl h22) ?_
      refine ax_if_ne (q := 43) (x := 62) rfl rfl (fun h => absurd h (by omega)) (fun h40 => ?_)
      refine ax_load (q := 44) rfl rfl rfl rfl rfl ?_
      refine ax_getf (q := 47) (v := am_R 157) rfl rfl (rfl) ?_
      refine ax_const (q := 49) (v := am_I 8) rfl rfl rfl ?_
      refine ax_load (q := 50) rfl rfl rfl rfl rfl ?_
      refine ax_imul (q := 51) (z := ((8 * A : Nat) : Int)) rfl rfl (am_we (by omega) (by omega) (by omega)) ?_
      refine ax_load (q := 52) rfl rfl rfl rfl rfl ?_
      refine ax_iadd (q := 53) (z := (((8 * A) + B : Nat) : Int)) rfl rfl (am_we (by omega) (by omega) (by omega)) ?_
      refine bx_iald (q := 54) (k := (8 * A) + B) (z := f (8 * A + B)) rfl rfl (rfl) (by omega) (by omega) (congrFun ((hf2.1 157 (by decide) (by decide)).trans hf157) _) ?_
      refine ax_if_le (q := 57) (x := 62) rfl rfl (fun h54 => ?_) (fun h54 => ?_)
      · refine ax_load (q := 63) rfl rfl rfl rfl rfl ?_
        refine ax_getf (q := 66) (v := am_I 0) rfl rfl (am_fg rfl h22) ?_
        refine ax_if_ne (q := 69) (x := 73) rfl rfl (fun h => absurd h (by omega)) (fun h66 => ?_)
        refine ax_load (q := 70) rfl rfl rfl rfl rfl ?_
        refine ax_callv (q := 73) rfl rfl rfl rfl rfl rfl ?_
        refine m_tokenN (by omega) hP2 (fun σc hkc hPc => ?_)
        have hfc : fp_ [] pf_ [] σ σc := fp_tr (hf2) hkc (by decide) (by decide) (by decide)
        have h2c : σc.1 135 2 = 0 := (hkc.2.1 2 (by decide)).trans h22
        have hgc : σc.2.1 137 = g := (hkc.2.2.1 137 (by decide) (by decide)).trans hg2
        refine ax_load (q := 74) rfl rfl rfl rfl rfl ?_
        refine ax_const (q := 75) (v := am_I 1) rfl rfl rfl ?_
        refine ax_const (q := 77) (v := am_I 9) rfl rfl rfl ?_
        refine ax_callv (q := 80) rfl rfl rfl rfl rfl rfl ?_
        refine r_toldNumber (by omega) hPc h2c ⟨fun e he x4 v hk h0 hF => ?_, fun v pD heD σd hk h2d hPd => ?_⟩
        · have hbad := FT_pos hF h0
          have hfx : fp_ [] pf_ [] σ x4 := fp_tr hfc hk (by decide) (by decide) (by decide)
          have hres : (odd_ tp n g f nR nO p).1 = Sum.inl e := by unfold odd_; rw [heA]; dsimp only; rw [heB]; dsimp only; rw [if_neg (by simpa using h54)]; exact he
          refine ax_store (q := 81) (L' := [some (am_R 135), some (am_I ((A : Nat) : Int)), some (am_I ((B : Nat) : Int)), some (am_I v)]) rfl rfl rfl rfl rfl rfl ?_
          refine ax_load (q := 82) rfl rfl rfl rfl rfl ?_
          refine ax_getf (q := 85) (v := am_I (x4.1 135 2)) rfl rfl (rfl) ?_
          refine ax_if_ne (q := 88) (x := 100) rfl rfl (fun h85 => ?_) (fun h => absurd h (by omega))
          refine ax_ret (r := none) rfl rfl ?_
          exact hN _ hres x4 hfx h0 hF
        · have hfd : fp_ [] pf_ [] σ σd := fp_tr hfc hk (by decide) (by decide) (by decide)
          refine ax_store (q := 81) (L' := [some (am_R 135), some (am_I ((A : Nat) : Int)), some (am_I ((B : Nat) : Int)), some (am_I v)]) rfl rfl rfl rfl rfl rfl ?_
          refine ax_load (q := 82) rfl rfl rfl rfl rfl ?_
          refine ax_getf (q := 85) (v := am_I 0) rfl rfl (am_fg rfl h2d) ?_
          refine ax_if_ne (q := 88) (x := 100) rfl rfl (fun h => absurd h (by omega)) (fun h85 => ?_)
          refine ax_load (q := 89) rfl rfl rfl rfl rfl ?_
          refine ax_getf (q := 92) (v := am_R 157) rfl rfl (rfl) ?_
          refine ax_const (q := 94) (v := am_I 8) rfl rfl rfl ?_
          refine ax_load (q := 95) rfl rfl rfl rfl rfl ?_
          refine ax_imul (q := 96) (z := ((8 * A : Nat) : Int)) rfl rfl (am_we (by omega) (by omega) (by omega)) ?_
          refine ax_load (q := 97) rfl rfl rfl rfl rfl ?_
          refine ax_iadd (q := 98) (z := (((8 * A) + B : Nat) : Int)) rfl rfl (am_we (by omega) (by omega) (by omega)) ?_
          refine ax_load (q := 99) rfl rfl rfl rfl rfl ?_
          refine bx_iast (q := 100) (k := (8 * A) + B) rfl rfl (rfl) (by omega) (by omega) ?_
          refine ax_ret (r := none) rfl rfl ?_
          have hod : odd_ tp n g f nR nO p = (num_ tp n 1 9 (nxp_ tp n (nxp_ tp n (nxp_ tp n p))), 8 * A + B) := by unfold odd_; rw [heA]; dsimp only; rw [heB]; dsimp only; rw [if_neg (by simpa using h54)]; rfl
          rw [hod] at hY
          exact hY v pD heD _ (fp_sI (fp_tr (fp_rf _ _ _ _) hfd (by decide) (by decide) (by decide)) (by decide) (by decide)) (by rw [sI_ne (by decide)]; exact h2d) (PS_sI hPd (by decide) (by decide)) (by rw [sI_at, hfd.1 157 (by decide) (by decide), hf157])
      · refine ax_load (q := 58) rfl rfl rfl rfl rfl ?_
        refine ax_const (q := 59) (v := am_I 3) rfl rfl rfl ?_
        refine ax_callv (q := 62) rfl rfl rfl rfl rfl rfl ?_
        refine m_wrong (by omega) ?_
        rw [if_neg (by rw [h22]; decide)]
        obtain ⟨x3, hx3⟩ : ∃ s, s = wr_ σ2 3 := ⟨_, rfl⟩
        rw [← hx3]
        have hbad : 0 < x3.1 135 2 := by rw [hx3]; exact wr_2 σ2 (by decide)
        have hfx : fp_ [] pf_ [] σ x3 := by rw [hx3]; exact fp_wr hf2 (by decide) (by decide)
        have hF : FT_ tp n (3, nxp_ tp n (nxp_ tp n p)) x3 := by rw [hx3]; exact FT_wr hP2 3
        have h0 : (0 : Int) < 3 := by decide
        have hres : (odd_ tp n g f nR nO p).1 = Sum.inl (3, nxp_ tp n (nxp_ tp n p)) := by unfold odd_; rw [heA]; dsimp only; rw [heB]; dsimp only; rw [if_pos (by simpa using h54)]
        refine ax_load (q := 63) rfl rfl rfl rfl rfl ?_
        refine ax_getf (q := 66) (v := am_I (x3.1 135 2)) rfl rfl (rfl) ?_
        refine ax_if_ne (q := 69) (x := 73) rfl rfl (fun h66 => ?_) (fun h => absurd h (by omega))
        refine ax_load (q := 74) rfl rfl rfl rfl rfl ?_
        refine ax_const (q := 75) (v := am_I 1) rfl rfl rfl ?_
        refine ax_const (q := 77) (v := am_I 9) rfl rfl rfl ?_
        refine ax_callv (q := 80) rfl rfl rfl rfl rfl rfl ?_
        refine z_toldNumber (by omega) hbad ?_
        refine ax_store (q := 81) (L' := [some (am_R 135), some (am_I ((A : Nat) : Int)), some (am_I ((B : Nat) : Int)), some (am_I 0)]) rfl rfl rfl rfl rfl rfl ?_
        refine ax_load (q := 82) rfl rfl rfl rfl rfl ?_
        refine ax_getf (q := 85) (v := am_I (x3.1 135 2)) rfl rfl (rfl) ?_
        refine ax_if_ne (q := 88) (x := 100) rfl rfl (fun h85 => ?_) (fun h => absurd h (by omega))
        refine ax_ret (r := none) rfl rfl ?_
        exact hN _ hres x3 hfx h0 hF

/-- what a line of undoing tells -/
def und_ (tp : Nat → Int) (n : Nat) (g f : Nat → Int) (nO p : Nat) : Sum (Int × Nat) Nat × Nat × Nat := match old_ tp n g 4 nO (nxp_ tp n p) with
  | Sum.inl e => (Sum.inl e, 0, 0)
  | Sum.inr (a, _) => match old_ tp n g 4 nO (nxp_ tp n (nxp_ tp n p)) with
    | Sum.inl e => (Sum.inl e, 0, 0)
    | Sum.inr (b, _) => if a = b ∨ (f a.toNat).toNat.testBit b.toNat = true then (Sum.inl (3, nxp_ tp n (nxp_ tp n p)), 0, 0) else (Sum.inr (nxp_ tp n (nxp_ tp n (nxp_ tp n p))), a.toNat, b.toNat)

theorem r_readUndoes {d : Nat} (hd : 5 ≤ d) {σ : am_S} {tp : Nat → Int} {n p : Nat} (hP : PS_ tp n p σ) (h02 : σ.1 135 2 = 0) {g f : Nat → Int} (hg : σ.2.1 137 = g) (hf150 : σ.1 150 = f) (hbd : ∀ i, i < 8 → 0 ≤ f i ∧ f i ≤ 255) {nO k : Nat} (hnO : σ.1 135 44 = (nO : Int)) (hO8 : nO ≤ 8) (hk47 : σ.1 135 47 = (k : Int)) (hk8 : k < 8) {Q : Option am_V → am_S → Prop} (hN : ∀ e, (und_ tp n g f nO p).1 = Sum.inl e → ∀ σ', fp_ [] pf_ [] σ σ' → 0 < e.1 → FT_ tp n e σ' → Q none σ') (hY : ∀ p', (und_ tp n g f nO p).1 = Sum.inr p' → ∀ σ', fp_ [150] (47 :: pf_) [] σ σ' → σ'.1 135 2 = 0 → PS_ tp n p' σ' → σ'.1 150 = am_up f (und_ tp n g f nO p).2.1 (((f (und_ tp n g f nO p).2.1).toNat ||| 2 ^ (und_ tp n g f nO p).2.2 : Nat) : Int) → σ'.1 135 47 = ((k + 1 : Nat) : Int) → Q none σ') : am_Ev d 179 [am_R 135] σ Q := by
  obtain ⟨d, rfl⟩ : ∃ e, d = e + 1 := ⟨d - 1, by omega⟩
  refine ev_in (m := 179) (c := k_X9_readUndoes) (L := [some (am_R 135), none, none]) rfl rfl rfl rfl rfl rfl ?_
  refine ax_load (q := 1) rfl rfl rfl rfl rfl ?_
  refine ax_callv (q := 4) rfl rfl rfl rfl rfl rfl ?_
  refine m_tokenN (by omega) hP (fun σa hka hPa => ?_)
  have hfa : fp_ [] pf_ [] σ σa := fp_tr (fp_rf [] pf_ [] σ) hka (by decide) (by decide) (by decide)
  have h2a : σa.1 135 2 = 0 := (hka.2.1 2 (by decide)).trans h02
  have hga : σa.2.1 137 = g := (hka.2.2.1 137 (by decide) (by decide)).trans hg
  refine ax_load (q := 5) rfl rfl rfl rfl rfl ?_
  refine ax_const (q := 6) (v := am_I 4) rfl rfl rfl ?_
  refine ax_load (q := 7) rfl rfl rfl rfl rfl ?_
  refine ax_getf (q := 10) (v := am_I ((nO : Nat) : Int)) rfl rfl (am_fg rfl (((hfa).2.1 44 (by decide)).trans hnO)) ?_
  refine ax_callv (q := 13) rfl rfl rfl rfl rfl rfl ?_
  refine r_oldName (b := 4) (m := nO) (by omega) hPa h2a hga (by omega) ⟨fun e he x1 v hk h0 hF => ?_, fun aA pA heA σ1 hk h21 hP1 => ?_⟩
  · have hbad := FT_pos hF h0
    have hfx : fp_ [] pf_ [] σ x1 := fp_tr hfa hk (by decide) (by decide) (by decide)
    have hres : (und_ tp n g f nO p).1 = Sum.inl e := by unfold und_; rw [he]
    refine ax_store (q := 14) (L' := [some (am_R 135), some (am_I v), none]) rfl rfl rfl rfl rfl rfl ?_
    refine ax_load (q := 15) rfl rfl rfl rfl rfl ?_
    refine ax_getf (q := 18) (v := am_I (x1.1 135 2)) rfl rfl (rfl) ?_
    refine ax_if_ne (q := 21) (x := 25) rfl rfl (fun h18 => ?_) (fun h => absurd h (by omega))
    refine ax_load (q := 26) rfl rfl rfl rfl rfl ?_
    refine ax_const (q := 27) (v := am_I 4) rfl rfl rfl ?_
    refine ax_load (q := 28) rfl rfl rfl rfl rfl ?_
    refine ax_getf (q := 31) (v := am_I ((nO : Nat) : Int)) rfl rfl (am_fg rfl (((hfx).2.1 44 (by decide)).trans hnO)) ?_
    refine ax_callv (q := 34) rfl rfl rfl rfl rfl rfl ?_
    refine z_oldName (by omega) hbad ?_
    refine ax_store (q := 35) (L' := [some (am_R 135), some (am_I v), some (am_I 0)]) rfl rfl rfl rfl rfl rfl ?_
    refine ax_load (q := 36) rfl rfl rfl rfl rfl ?_
    refine ax_getf (q := 39) (v := am_I (x1.1 135 2)) rfl rfl (rfl) ?_
    refine ax_if_ne (q := 42) (x := 66) rfl rfl (fun h39 => ?_) (fun h => absurd h (by omega))
    refine ax_load (q := 67) rfl rfl rfl rfl rfl ?_
    refine ax_getf (q := 70) (v := am_I (x1.1 135 2)) rfl rfl (rfl) ?_
    refine ax_if_le (q := 73) (x := 74) rfl rfl (fun h => absurd h (by omega)) (fun h70 => ?_)
    refine ax_ret (r := none) rfl rfl ?_
    exact hN _ hres x1 hfx h0 hF
  · obtain ⟨rfl, A, rfl, hlA⟩ := old_in heA
    have hf1 : fp_ [] pf_ [] σ σ1 := fp_tr hfa hk (by decide) (by decide) (by decide)
    have hg1 : σ1.2.1 137 = g := (hk.2.2.1 137 (by decide) (by decide)).trans hga
    refine ax_store (q := 14) (L' := [some (am_R 135), some (am_I ((A : Nat) : Int)), none]) rfl rfl rfl rfl rfl rfl ?_
    refine ax_load (q := 15) rfl rfl rfl rfl rfl ?_
    refine ax_getf (q := 18) (v := am_I 0) rfl rfl (am_fg rfl h21) ?_
    refine ax_if_ne (q := 21) (x := 25) rfl rfl (fun h => absurd h (by omega)) (fun h18 => ?_)
    refine ax_load (q := 22) rfl rfl rfl rfl rfl ?_
    refine ax_callv (q := 25) rfl rfl rfl rfl rfl rfl ?_
    refine m_tokenN (by omega) hP1 (fun σb hkb hPb => ?_)
    have hfb : fp_ [] pf_ [] σ σb := fp_tr (hf1) hkb (by decide) (by decide) (by decide)
    have h2b : σb.1 135 2 = 0 := (hkb.2.1 2 (by decide)).trans h21
    have hgb : σb.2.1 137 = g := (hkb.2.2.1 137 (by decide) (by decide)).trans hg1
    refine ax_load (q := 26) rfl rfl rfl rfl rfl ?_
    refine ax_const (q := 27) (v := am_I 4) rfl rfl rfl ?_
    refine ax_load (q := 28) rfl rfl rfl rfl rfl ?_
    refine ax_getf (q := 31) (v := am_I ((nO : Nat) : Int)) rfl rfl (am_fg rfl (((hfb).2.1 44 (by decide)).trans hnO)) ?_
    refine ax_callv (q := 34) rfl rfl rfl rfl rfl rfl ?_
    refine r_oldName (b := 4) (m := nO) (by omega) hPb h2b hgb (by omega) ⟨fun e he x2 v hk h0 hF => ?_, fun aB pB heB σ2 hk h22 hP2 => ?_⟩
    · have hbad := FT_pos hF h0
      have hfx : fp_ [] pf_ [] σ x2 := fp_tr hfb hk (by decide) (by decide) (by decide)
      have hres : (und_ tp n g f nO p).1 = Sum.inl e := by unfold und_; rw [heA, he]
      refine ax_store (q := 35) (L' := [some (am_R 135), some (am_I ((A : Nat) : Int)), some (am_I v)]) rfl rfl rfl rfl rfl rfl ?_
      refine ax_load (q := 36) rfl rfl rfl rfl rfl ?_
      refine ax_getf (q := 39) (v := am_I (x2.1 135 2)) rfl rfl (rfl) ?_
      refine ax_if_ne (q := 42) (x := 66) rfl rfl (fun h39 => ?_) (fun h => absurd h (by omega))
      refine ax_load (q := 67) rfl rfl rfl rfl rfl ?_
      refine ax_getf (q := 70) (v := am_I (x2.1 135 2)) rfl rfl (rfl) ?_
      refine ax_if_le (q := 73) (x := 74) rfl rfl (fun h => absurd h (by omega)) (fun h70 => ?_)
      refine ax_ret (r := none) rfl rfl ?_
      exact hN _ hres x2 hfx h0 hF
    · obtain ⟨rfl, B, rfl, hlB⟩ := old_in heB
      have hf2 : fp_ [] pf_ [] σ σ2 := fp_tr hfb hk (by decide) (by decide) (by decide)
      have hg2 : σ2.2.1 137 = g := (hk.2.2.1 137 (by decide) (by decide)).trans hgb
      have hfA := hbd A (by omega)
      obtain ⟨U, hU⟩ : ∃ U : Nat, U = (f A).toNat := ⟨_, rfl⟩
      have hU2 : f A = (U : Int) := by omega
      have hB8 : (2 : Nat) ^ B < 2 ^ 31 := Nat.pow_lt_pow_right (by decide) (by omega)
      refine ax_store (q := 35) (L' := [some (am_R 135), some (am_I ((A : Nat) : Int)), some (am_I ((B : Nat) : Int))]) rfl rfl rfl rfl rfl rfl ?_
      refine ax_load (q := 36) rfl rfl rfl rfl rfl ?_
      refine ax_getf (q := 39) (v := am_I 0) rfl rfl (am_fg rfl h22) ?_
      refine ax_if_ne (q := 42) (x := 66) rfl rfl (fun h => absurd h (by omega)) (fun h39 => ?_)
      refine ax_load (q := 43) rfl rfl rfl rfl rfl ?_
      refine ax_load (q := 44) rfl rfl rfl rfl rfl ?_
      refine ax_icmp_eq (q := 47) (x := 61) rfl rfl (fun h44 => ?_) (fun h44 => ?_)
      · have hc : (A : Int) = (B : Int) ∨ (f A).toNat.testBit B = true := Or.inl h44
        refine ax_load (q := 62) rfl rfl rfl rfl rfl ?_
        refine ax_const (q := 63) (v := am_I 3) rfl rfl rfl ?_
        refine ax_callv (q := 66) rfl rfl rfl rfl rfl rfl ?_
        refine m_wrong (by omega) ?_
        rw [if_neg (by rw [h22]; decide)]
        obtain ⟨x3, hx3⟩ : ∃ s, s = wr_ σ2 3 := ⟨_, rfl⟩
        rw [← hx3]
        have hbad : 0 < x3.1 135 2 := by rw [hx3]; exact wr_2 σ2 (by decide)
        have hfx : fp_ [] pf_ [] σ x3 := by rw [hx3]; exact fp_wr hf2 (by decide) (by decide)
        have hF : FT_ tp n (3, nxp_ tp n (nxp_ tp n p)) x3 := by rw [hx3]; exact FT_wr hP2 3
        have h0 : (0 : Int) < 3 := by decide
        have hres : (und_ tp n g f nO p).1 = Sum.inl (3, nxp_ tp n (nxp_ tp n p)) := by unfold und_; rw [heA]; dsimp only; rw [heB]; dsimp only; rw [if_pos (by simpa using hc)]
        refine ax_load (q := 67) rfl rfl rfl rfl rfl ?_
        refine ax_getf (q := 70) (v := am_I (x3.1 135 2)) rfl rfl (rfl) ?_
        refine ax_if_le (q := 73) (x := 74) rfl rfl (fun h => absurd h (by omega)) (fun h70 => ?_)
        refine ax_ret (r := none) rfl rfl ?_
        exact hN _ hres x3 hfx h0 hF
      · refine ax_load (q := 48) rfl rfl rfl rfl rfl ?_
        refine ax_getf (q := 51) (v := am_R 150) rfl rfl (rfl) ?_
        refine ax_load (q := 52) rfl rfl rfl rfl rfl ?_
        refine bx_iald (q := 53) (k := A) (z := ((U : Nat) : Int)) rfl rfl (rfl) (by omega) (by omega) ((congrFun ((hf2.1 150 (by decide) (by decide)).trans hf150) _).trans hU2) ?_
        refine ax_load (q := 54) rfl rfl rfl rfl rfl ?_
        refine ax_ishr (q := 55) (z := am_shr (U : Int) (B : Int)) rfl rfl (rfl) ?_
        refine ax_const (q := 56) (v := am_I 1) rfl rfl rfl ?_
        refine ax_iand (q := 57) (z := if U.testBit B then 1 else 0) rfl rfl (am_bit (by omega) (by omega)) ?_
        refine ax_const (q := 58) (v := am_I 1) rfl rfl rfl ?_
        refine ax_icmp_ne (q := 61) (x := 66) rfl rfl (fun h58 => ?_) (fun h58 => ?_)
        · have hc : ¬ ((A : Int) = (B : Int) ∨ (f A).toNat.testBit B = true) := by rintro (q | q); (exact h44 q); (rw [← hU, it_n1 h58] at q; cases q)
          refine ax_load (q := 67) rfl rfl rfl rfl rfl ?_
          refine ax_getf (q := 70) (v := am_I 0) rfl rfl (am_fg rfl h22) ?_
          refine ax_if_le (q := 73) (x := 74) rfl rfl (fun h70 => ?_) (fun h => absurd h (by omega))
          refine ax_load (q := 75) rfl rfl rfl rfl rfl ?_
          refine ax_getf (q := 78) (v := am_R 150) rfl rfl (rfl) ?_
          refine ax_load (q := 79) rfl rfl rfl rfl rfl ?_
          refine ax_dup2 (q := 80) rfl rfl rfl rfl ?_
          refine bx_iald (q := 81) (k := A) (z := ((U : Nat) : Int)) rfl rfl (rfl) (by omega) (by omega) ((congrFun ((hf2.1 150 (by decide) (by decide)).trans hf150) _).trans hU2) ?_
          refine ax_const (q := 82) (v := am_I 1) rfl rfl rfl ?_
          refine ax_load (q := 83) rfl rfl rfl rfl rfl ?_
          refine ax_ishl (q := 84) (z := ((2 ^ B : Nat) : Int)) rfl rfl (am_shl1 B (by omega)) ?_
          refine ax_ior (q := 85) (z := ((U ||| 2 ^ B : Nat) : Int)) rfl rfl (am_or_nat (by omega) hB8) ?_
          refine bx_iast (q := 86) (k := A) rfl rfl (rfl) (by omega) (by omega) ?_
          refine ax_load (q := 87) rfl rfl rfl rfl rfl ?_
          refine ax_dup (q := 88) rfl rfl rfl ?_
          refine ax_getf (q := 91) (v := am_I ((k : Nat) : Int)) rfl rfl (am_fg rfl (by rw [sI_ne (by decide), hf2.2.1 47 (by decide)]; exact hk47)) ?_
          refine ax_const (q := 92) (v := am_I 1) rfl rfl rfl ?_
          refine ax_iadd (q := 93) (z := ((k + 1 : Nat) : Int)) rfl rfl (am_we (by omega) (by omega) (by omega)) ?_
          refine ax_putf (q := 96) rfl rfl rfl ?_
          refine ax_load (q := 97) rfl rfl rfl rfl rfl ?_
          refine ax_callv (q := 100) rfl rfl rfl rfl rfl rfl ?_
          have hfr : fp_ [150] (47 :: pf_) [] σ (am_sI (am_sI σ2 150 (am_up (σ2.1 150) A ((U ||| 2 ^ B : Nat) : Int))) 135 (am_up ((am_sI σ2 150 (am_up (σ2.1 150) A ((U ||| 2 ^ B : Nat) : Int))).1 135) 47 ((k + 1 : Nat) : Int))) := fp_s5 (fp_sI (fp_tr (fp_rf _ _ _ _) hf2 (by decide) (by decide) (by decide)) (by decide) (by decide)) (by decide)
          have e2 : ((am_sI (am_sI σ2 150 (am_up (σ2.1 150) A ((U ||| 2 ^ B : Nat) : Int))) 135 (am_up ((am_sI σ2 150 (am_up (σ2.1 150) A ((U ||| 2 ^ B : Nat) : Int))).1 135) 47 ((k + 1 : Nat) : Int)))).1 135 2 = 0 := by rw [sI_at, am_up_ne (by decide), sI_ne (by decide)]; exact h22
          have e3 : ((am_sI (am_sI σ2 150 (am_up (σ2.1 150) A ((U ||| 2 ^ B : Nat) : Int))) 135 (am_up ((am_sI σ2 150 (am_up (σ2.1 150) A ((U ||| 2 ^ B : Nat) : Int))).1 135) 47 ((k + 1 : Nat) : Int)))).1 150 = am_up f A ((U ||| 2 ^ B : Nat) : Int) := by rw [sI_ne (by decide), sI_at, hf2.1 150 (by decide) (by decide), hf150]
          have e4 : ((am_sI (am_sI σ2 150 (am_up (σ2.1 150) A ((U ||| 2 ^ B : Nat) : Int))) 135 (am_up ((am_sI σ2 150 (am_up (σ2.1 150) A ((U ||| 2 ^ B : Nat) : Int))).1 135) 47 ((k + 1 : Nat) : Int)))).1 135 47 = ((k + 1 : Nat) : Int) := by rw [sI_at, am_up_same]
          refine m_tokenN (by omega) (PS_s5 (PS_sI hP2 (by decide) (by decide)) (by decide)) (fun σd hkd hPd => ?_)
          refine ax_ret (r := none) rfl rfl ?_
          have hod : und_ tp n g f nO p = (Sum.inr (nxp_ tp n (nxp_ tp n (nxp_ tp n p))), A, B) := by unfold und_; rw [heA]; dsimp only; rw [heB]; dsimp only; rw [if_neg (by simpa using hc)]; rfl
          rw [hod] at hY
          exact hY _ rfl _ (fp_tr hfr hkd (by decide) (by decide) (by decide)) ((hkd.2.1 2 (by decide)).trans e2) hPd (by rw [hkd.1 150 (by decide) (by decide), e3, hU]) ((hkd.2.1 47 (by decide)).trans e4)
        · have hc : (A : Int) = (B : Int) ∨ (f A).toNat.testBit B = true := Or.inr (by rw [← hU]; exact it_1 h58)
          refine ax_load (q := 62) rfl rfl rfl rfl rfl ?_
          refine ax_const (q := 63) (v := am_I 3) rfl rfl rfl ?_
          refine ax_callv (q := 66) rfl rfl rfl rfl rfl rfl ?_
          refine m_wrong (by omega) ?_
          rw [if_neg (by rw [h22]; decide)]
          obtain ⟨x3, hx3⟩ : ∃ s, s = wr_ σ2 3 := ⟨_, rfl⟩
          rw [← hx3]
          have hbad : 0 < x3.1 135 2 := by rw [hx3]; exact wr_2 σ2 (by decide)
          have hfx : fp_ [] pf_ [] σ x3 := by rw [hx3]; exact fp_wr hf2 (by decide) (by decide)
          have hF : FT_ tp n (3, nxp_ tp n (nxp_ tp n p)) x3 := by rw [hx3]; exact FT_wr hP2 3
          have h0 : (0 : Int) < 3 := by decide
          have hres : (und_ tp n g f nO p).1 = Sum.inl (3, nxp_ tp n (nxp_ tp n p)) := by unfold und_; rw [heA]; dsimp only; rw [heB]; dsimp only; rw [if_pos (by simpa using hc)]
          refine ax_load (q := 67) rfl rfl rfl rfl rfl ?_
          refine ax_getf (q := 70) (v := am_I (x3.1 135 2)) rfl rfl (rfl) ?_
          refine ax_if_le (q := 73) (x := 74) rfl rfl (fun h => absurd h (by omega)) (fun h70 => ?_)
          refine ax_ret (r := none) rfl rfl ?_
          exact hN _ hres x3 hfx h0 hF
