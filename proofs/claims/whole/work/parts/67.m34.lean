theorem PS_sI {tp : Nat → Int} {n p : Nat} {σ : am_S} (h : PS_ tp n p σ) {a : Nat} {f : Nat → Int} (h5 : 135 ≠ a) (h6 : 136 ≠ a) : PS_ tp n p (am_sI σ a f) := by
  obtain ⟨⟨a1, a2, a3, a4, a5⟩, b1, b2, b3⟩ := h
  exact ⟨⟨by rw [sI_ne h5]; exact a1, by rw [sI_ne h5]; exact a2, by rw [sI_ne h5]; exact a3, by rw [sI_ne h5]; exact a4, a5⟩, by rw [sI_ne h6]; exact b1, by rw [sI_ne h5]; exact b2, b3⟩

theorem r_openUp {d : Nat} (hd : 3 ≤ d) {σ : am_S} {tp : Nat → Int} {n p : Nat} (hP : PS_ tp n p σ) (h02 : σ.1 135 2 = 0) {m : Nat} (hm : σ.1 135 19 = (m : Int)) (hm9 : m < 160) {dp : Int} (hdp : σ.1 135 23 = dp) (hd1 : -1000 ≤ dp) (hd2 : dp ≤ 1000) {x : Int} {Q : Option am_V → am_S → Prop} (hQ : ∀ σ', fp_ [142] (19 :: 23 :: pf_) [] σ σ' → PS_ tp n (nxp_ tp n p) σ' → σ'.1 135 2 = 0 → σ'.1 142 = am_up (σ.1 142) m x → σ'.1 135 19 = ((m + 1 : Nat) : Int) → σ'.1 135 23 = dp + 1 → Q none σ') : am_Ev d 166 [am_R 135, am_I x] σ Q := by
  obtain ⟨d, rfl⟩ : ∃ e, d = e + 1 := ⟨d - 1, by omega⟩
  refine ev_in (m := 166) (c := k_X9_openUp) (L := [some (am_R 135), some (am_I x)]) rfl rfl rfl rfl rfl rfl ?_
  refine ax_load (q := 1) rfl rfl rfl rfl rfl ?_
  refine ax_getf (q := 4) (v := am_R 142) rfl rfl (rfl) ?_
  refine ax_load (q := 5) rfl rfl rfl rfl rfl ?_
  refine ax_getf (q := 8) (v := am_I ((m : Nat) : Int)) rfl rfl (am_fg rfl (by first | exact hm | (rw [sI_ne (by decide)]; exact hm))) ?_
  refine ax_load (q := 9) rfl rfl rfl rfl rfl ?_
  refine bx_iast (q := 10) (k := m) rfl rfl (rfl) (by omega) (by omega) ?_
  refine ax_load (q := 11) rfl rfl rfl rfl rfl ?_
  refine ax_dup (q := 12) rfl rfl rfl ?_
  refine ax_getf (q := 15) (v := am_I ((m : Nat) : Int)) rfl rfl (am_fg rfl (by first | exact hm | (rw [sI_ne (by decide)]; exact hm))) ?_
  refine ax_const (q := 16) (v := am_I 1) rfl rfl rfl ?_
  refine ax_iadd (q := 17) (z := ((m + 1 : Nat) : Int)) rfl rfl (am_we (by omega) (by omega) (by omega)) ?_
  refine ax_putf (q := 20) rfl rfl rfl ?_
  refine ax_load (q := 21) rfl rfl rfl rfl rfl ?_
  refine ax_dup (q := 22) rfl rfl rfl ?_
  refine ax_getf (q := 25) (v := am_I dp) rfl rfl (am_fg rfl (by simp [am_sI, am_up, hdp])) ?_
  refine ax_const (q := 26) (v := am_I 1) rfl rfl rfl ?_
  refine ax_iadd (q := 27) (z := dp + 1) rfl rfl (am_we (by omega) (by omega) (by omega)) ?_
  refine ax_putf (q := 30) rfl rfl rfl ?_
  refine ax_load (q := 31) rfl rfl rfl rfl rfl ?_
  refine ax_getf (q := 34) (v := am_I 0) rfl rfl (am_fg rfl (by simp [am_sI, am_up, h02])) ?_
  refine ax_if_ne (q := 37) (x := 41) rfl rfl (fun h => absurd h (by omega)) (fun h34 => ?_)
  refine ax_load (q := 38) rfl rfl rfl rfl rfl ?_
  refine ax_callv (q := 41) rfl rfl rfl rfl rfl rfl ?_
  have hfr : fp_ [142] (19 :: 23 :: pf_) [] σ (am_sI (am_sI (am_sI σ 142 (am_up (σ.1 142) m x)) 135 (am_up ((am_sI σ 142 (am_up (σ.1 142) m x)).1 135) 19 ((m + 1 : Nat) : Int))) 135 (am_up ((am_sI (am_sI σ 142 (am_up (σ.1 142) m x)) 135 (am_up ((am_sI σ 142 (am_up (σ.1 142) m x)).1 135) 19 ((m + 1 : Nat) : Int))).1 135) 23 (dp + 1))) := (fp_s5 (fp_s5 (fp_sI (fp_rf _ _ _ _) (by decide) (by decide)) (by decide)) (by decide))
  have e2 : ((am_sI (am_sI (am_sI σ 142 (am_up (σ.1 142) m x)) 135 (am_up ((am_sI σ 142 (am_up (σ.1 142) m x)).1 135) 19 ((m + 1 : Nat) : Int))) 135 (am_up ((am_sI (am_sI σ 142 (am_up (σ.1 142) m x)) 135 (am_up ((am_sI σ 142 (am_up (σ.1 142) m x)).1 135) 19 ((m + 1 : Nat) : Int))).1 135) 23 (dp + 1)))).1 135 2 = 0 := by simp [am_sI, am_up, h02]
  have e3 : ((am_sI (am_sI (am_sI σ 142 (am_up (σ.1 142) m x)) 135 (am_up ((am_sI σ 142 (am_up (σ.1 142) m x)).1 135) 19 ((m + 1 : Nat) : Int))) 135 (am_up ((am_sI (am_sI σ 142 (am_up (σ.1 142) m x)) 135 (am_up ((am_sI σ 142 (am_up (σ.1 142) m x)).1 135) 19 ((m + 1 : Nat) : Int))).1 135) 23 (dp + 1)))).1 142 = am_up (σ.1 142) m x := by simp [am_sI, am_up]
  have e4 : ((am_sI (am_sI (am_sI σ 142 (am_up (σ.1 142) m x)) 135 (am_up ((am_sI σ 142 (am_up (σ.1 142) m x)).1 135) 19 ((m + 1 : Nat) : Int))) 135 (am_up ((am_sI (am_sI σ 142 (am_up (σ.1 142) m x)) 135 (am_up ((am_sI σ 142 (am_up (σ.1 142) m x)).1 135) 19 ((m + 1 : Nat) : Int))).1 135) 23 (dp + 1)))).1 135 19 = ((m + 1 : Nat) : Int) := by simp [am_sI, am_up]
  have e5 : ((am_sI (am_sI (am_sI σ 142 (am_up (σ.1 142) m x)) 135 (am_up ((am_sI σ 142 (am_up (σ.1 142) m x)).1 135) 19 ((m + 1 : Nat) : Int))) 135 (am_up ((am_sI (am_sI σ 142 (am_up (σ.1 142) m x)) 135 (am_up ((am_sI σ 142 (am_up (σ.1 142) m x)).1 135) 19 ((m + 1 : Nat) : Int))).1 135) 23 (dp + 1)))).1 135 23 = dp + 1 := by simp [am_sI, am_up]
  refine m_tokenN (by omega) (PS_s5 (PS_s5 (PS_sI hP (by decide) (by decide)) (by decide)) (by decide)) (fun σ1 hf1 hP1 => ?_)
  refine ax_ret (r := none) rfl rfl ?_
  exact hQ _ (fp_tr hfr hf1 (by decide) (by decide) (by decide)) hP1 ((hf1.2.1 2 (by decide)).trans e2) ((hf1.1 142 (by decide) (by decide)).trans e3) ((hf1.2.1 19 (by decide)).trans e4) ((hf1.2.1 23 (by decide)).trans e5)

theorem z_openUp {d : Nat} (hd : 1 ≤ d) {σ : am_S} (h2 : 0 < σ.1 135 2) {m : Nat} (hm : σ.1 135 19 = (m : Int)) (hm9 : m < 160) {dp : Int} (hdp : σ.1 135 23 = dp) (hd1 : -1000 ≤ dp) (hd2 : dp ≤ 1000) {x : Int} {Q : Option am_V → am_S → Prop} (hQ : ∀ σ', fp_ [142] [19, 23] [] σ σ' → Q none σ') : am_Ev d 166 [am_R 135, am_I x] σ Q := by
  obtain ⟨d, rfl⟩ : ∃ e, d = e + 1 := ⟨d - 1, by omega⟩
  refine ev_in (m := 166) (c := k_X9_openUp) (L := [some (am_R 135), some (am_I x)]) rfl rfl rfl rfl rfl rfl ?_
  refine ax_load (q := 1) rfl rfl rfl rfl rfl ?_
  refine ax_getf (q := 4) (v := am_R 142) rfl rfl (rfl) ?_
  refine ax_load (q := 5) rfl rfl rfl rfl rfl ?_
  refine ax_getf (q := 8) (v := am_I ((m : Nat) : Int)) rfl rfl (am_fg rfl (by first | exact hm | (rw [sI_ne (by decide)]; exact hm))) ?_
  refine ax_load (q := 9) rfl rfl rfl rfl rfl ?_
  refine bx_iast (q := 10) (k := m) rfl rfl (rfl) (by omega) (by omega) ?_
  refine ax_load (q := 11) rfl rfl rfl rfl rfl ?_
  refine ax_dup (q := 12) rfl rfl rfl ?_
  refine ax_getf (q := 15) (v := am_I ((m : Nat) : Int)) rfl rfl (am_fg rfl (by first | exact hm | (rw [sI_ne (by decide)]; exact hm))) ?_
  refine ax_const (q := 16) (v := am_I 1) rfl rfl rfl ?_
  refine ax_iadd (q := 17) (z := ((m + 1 : Nat) : Int)) rfl rfl (am_we (by omega) (by omega) (by omega)) ?_
  refine ax_putf (q := 20) rfl rfl rfl ?_
  refine ax_load (q := 21) rfl rfl rfl rfl rfl ?_
  refine ax_dup (q := 22) rfl rfl rfl ?_
  refine ax_getf (q := 25) (v := am_I dp) rfl rfl (am_fg rfl (by simp [am_sI, am_up, hdp])) ?_
  refine ax_const (q := 26) (v := am_I 1) rfl rfl rfl ?_
  refine ax_iadd (q := 27) (z := dp + 1) rfl rfl (am_we (by omega) (by omega) (by omega)) ?_
  refine ax_putf (q := 30) rfl rfl rfl ?_
  refine ax_load (q := 31) rfl rfl rfl rfl rfl ?_
  refine ax_getf (q := 34) (v := am_I (σ.1 135 2)) rfl rfl (am_fg rfl (by simp [am_sI, am_up])) ?_
  refine ax_if_ne (q := 37) (x := 41) rfl rfl (fun h34 => ?_) (fun h => absurd h (by omega))
  refine ax_ret (r := none) rfl rfl ?_
  exact hQ _ (fp_s5 (fp_s5 (fp_sI (fp_rf _ _ _ _) (by decide) (by decide)) (by decide)) (by decide))

