def sg_ (σ : am_S) (n : Nat) (a b c e t : Int) : am_S := am_sI (am_sI (am_sI (am_sI (am_sI (am_sI (am_sI σ 170 (am_up (σ.1 170) n a)) 171 (am_up (σ.1 171) n b)) 172 (am_up (σ.1 172) n c)) 175 (am_up (σ.1 175) n e)) 173 (am_up (σ.1 173) n t)) 174 (am_up (σ.1 174) n (-1))) 135 (am_up (σ.1 135) 77 ((n + 1 : Nat) : Int))

theorem m_sign {d : Nat} (hd : 3 ≤ d) {σ : am_S} {T : sp_T} (hT : TM_ T σ) (hV : TV_ T) {G : Nat → Nat → Int} {n : Nat} (hG : SG_ G n σ) {t : Int} (ht : σ.1 135 78 = t) {a b c e : Int} (he : e = 0 ∨ e = 1) {Q : Option am_V → am_S → Prop} (hN : (inr_ (nP_ T) a && (decide (0 ≤ b ∧ b ≤ 2) && (decide (0 ≤ c ∧ c ≤ 9) && decide (¬ n = 30)))) = false → Q (some (am_I (-1))) σ) (hY : (inr_ (nP_ T) a && (decide (0 ≤ b ∧ b ≤ 2) && (decide (0 ≤ c ∧ c ≤ 9) && decide (¬ n = 30)))) = true → Q (some (am_I ((n : Nat) : Int))) (sg_ σ n a b c e t)) : am_Ev d 249 [am_R 135, am_I a, am_I b, am_I c, am_I e] σ Q := by
  obtain ⟨d, rfl⟩ : ∃ e, d = e + 1 := ⟨d - 1, by omega⟩
  obtain ⟨hgn, hn30, ⟨hg0, hg1, hg2, hg3, hg4, hg5⟩, hgv⟩ := hG
  have h6 := hV.nP
  refine ev_in (m := 249) (c := k_X9_sign) (L := [some (am_R 135), some (am_I a), some (am_I b), some (am_I c), some (am_I e)]) rfl rfl rfl rfl rfl rfl ?_
  refine ax_load (q := 1) rfl rfl rfl rfl rfl ?_
  refine ax_load (q := 2) rfl rfl rfl rfl rfl ?_
  refine ax_callv (q := 5) rfl rfl rfl rfl rfl rfl ?_
  refine m_isPerson (by omega) hT hV ?_
  refine ax_if_eq (q := 8) (x := 36) rfl rfl (fun h5 => ?_) (fun h5 => ?_)
  · have hb5 := it_0 h5
    refine ax_const (q := 37) (v := am_I (-1)) rfl rfl rfl ?_
    refine ax_ret (r := some (am_I (-1))) rfl rfl ?_
    exact hN (by unfold inr_; first | (rw [hb5]; rfl) | (rw [hb14, Bool.false_and, Bool.and_false]) | (rw [hb24, Bool.false_and, Bool.and_false, Bool.and_false]) | (rw [hb33, Bool.and_false, Bool.and_false, Bool.and_false]))
  · have hb5 := it_n0 h5
    refine ax_load (q := 9) rfl rfl rfl rfl rfl ?_
    refine ax_const (q := 10) (v := am_I 0) rfl rfl rfl ?_
    refine ax_const (q := 11) (v := am_I 2) rfl rfl rfl ?_
    refine ax_calls (q := 14) rfl rfl rfl rfl rfl ?_
    refine m_isIn (by omega) ?_
    refine ax_if_eq (q := 17) (x := 36) rfl rfl (fun h14 => ?_) (fun h14 => ?_)
    · have hb14 := it_0 h14
      refine ax_const (q := 37) (v := am_I (-1)) rfl rfl rfl ?_
      refine ax_ret (r := some (am_I (-1))) rfl rfl ?_
      exact hN (by unfold inr_; first | (rw [hb5]; rfl) | (rw [hb14, Bool.false_and, Bool.and_false]) | (rw [hb24, Bool.false_and, Bool.and_false, Bool.and_false]) | (rw [hb33, Bool.and_false, Bool.and_false, Bool.and_false]))
    · have hb14 := it_n0 h14
      refine ax_load (q := 18) rfl rfl rfl rfl rfl ?_
      refine ax_const (q := 19) (v := am_I 0) rfl rfl rfl ?_
      refine ax_const (q := 21) (v := am_I 9) rfl rfl rfl ?_
      refine ax_calls (q := 24) rfl rfl rfl rfl rfl ?_
      refine m_isIn (by omega) ?_
      refine ax_if_eq (q := 27) (x := 36) rfl rfl (fun h24 => ?_) (fun h24 => ?_)
      · have hb24 := it_0 h24
        refine ax_const (q := 37) (v := am_I (-1)) rfl rfl rfl ?_
        refine ax_ret (r := some (am_I (-1))) rfl rfl ?_
        exact hN (by unfold inr_; first | (rw [hb5]; rfl) | (rw [hb14, Bool.false_and, Bool.and_false]) | (rw [hb24, Bool.false_and, Bool.and_false, Bool.and_false]) | (rw [hb33, Bool.and_false, Bool.and_false, Bool.and_false]))
      · have hb24 := it_n0 h24
        refine ax_load (q := 28) rfl rfl rfl rfl rfl ?_
        refine ax_getf (q := 31) (v := am_I ((n : Nat) : Int)) rfl rfl (am_fg rfl hgn) ?_
        refine ax_const (q := 33) (v := am_I 30) rfl rfl rfl ?_
        refine ax_icmp_ne (q := 36) (x := 38) rfl rfl (fun h33 => ?_) (fun h33 => ?_)
        · have hb33 : decide (¬ n = 30) = true := decide_eq_true (by omega)
          refine ax_load (q := 39) rfl rfl rfl rfl rfl ?_
          refine ax_getf (q := 42) (v := am_R 170) rfl rfl (rfl) ?_
          refine ax_load (q := 43) rfl rfl rfl rfl rfl ?_
          refine ax_getf (q := 46) (v := am_I ((n : Nat) : Int)) rfl rfl (am_fg rfl hgn) ?_
          refine ax_load (q := 47) rfl rfl rfl rfl rfl ?_
          refine bx_iast (q := 48) (k := n) rfl rfl (rfl) (by omega) (by omega) ?_
          refine ax_load (q := 49) rfl rfl rfl rfl rfl ?_
          refine ax_getf (q := 52) (v := am_R 171) rfl rfl (rfl) ?_
          refine ax_load (q := 53) rfl rfl rfl rfl rfl ?_
          refine ax_getf (q := 56) (v := am_I ((n : Nat) : Int)) rfl rfl (am_fg rfl ((congrFun (by simp only [sI_ne (show (135 : Nat) ≠ 170 by decide), sI_ne (show (135 : Nat) ≠ 171 by decide), sI_ne (show (135 : Nat) ≠ 172 by decide), sI_ne (show (135 : Nat) ≠ 173 by decide), sI_ne (show (135 : Nat) ≠ 174 by decide), sI_ne (show (135 : Nat) ≠ 175 by decide)]) 77).trans hgn)) ?_
          refine ax_load (q := 57) rfl rfl rfl rfl rfl ?_
          refine bx_iast (q := 58) (k := n) rfl rfl (rfl) (by omega) (by omega) ?_
          refine ax_load (q := 59) rfl rfl rfl rfl rfl ?_
          refine ax_getf (q := 62) (v := am_R 172) rfl rfl (rfl) ?_
          refine ax_load (q := 63) rfl rfl rfl rfl rfl ?_
          refine ax_getf (q := 66) (v := am_I ((n : Nat) : Int)) rfl rfl (am_fg rfl ((congrFun (by simp only [sI_ne (show (135 : Nat) ≠ 170 by decide), sI_ne (show (135 : Nat) ≠ 171 by decide), sI_ne (show (135 : Nat) ≠ 172 by decide), sI_ne (show (135 : Nat) ≠ 173 by decide), sI_ne (show (135 : Nat) ≠ 174 by decide), sI_ne (show (135 : Nat) ≠ 175 by decide)]) 77).trans hgn)) ?_
          refine ax_load (q := 67) rfl rfl rfl rfl rfl ?_
          refine bx_iast (q := 68) (k := n) rfl rfl (rfl) (by omega) (by omega) ?_
          refine ax_load (q := 69) rfl rfl rfl rfl rfl ?_
          refine ax_getf (q := 72) (v := am_R 175) rfl rfl (rfl) ?_
          refine ax_load (q := 73) rfl rfl rfl rfl rfl ?_
          refine ax_getf (q := 76) (v := am_I ((n : Nat) : Int)) rfl rfl (am_fg rfl ((congrFun (by simp only [sI_ne (show (135 : Nat) ≠ 170 by decide), sI_ne (show (135 : Nat) ≠ 171 by decide), sI_ne (show (135 : Nat) ≠ 172 by decide), sI_ne (show (135 : Nat) ≠ 173 by decide), sI_ne (show (135 : Nat) ≠ 174 by decide), sI_ne (show (135 : Nat) ≠ 175 by decide)]) 77).trans hgn)) ?_
          refine ax_load (q := 78) rfl rfl rfl rfl rfl ?_
          refine bx_zast (q := 79) (k := n) rfl rfl (rfl) (by omega) (by omega) (he) ?_
          refine ax_load (q := 80) rfl rfl rfl rfl rfl ?_
          refine ax_getf (q := 83) (v := am_R 173) rfl rfl (rfl) ?_
          refine ax_load (q := 84) rfl rfl rfl rfl rfl ?_
          refine ax_getf (q := 87) (v := am_I ((n : Nat) : Int)) rfl rfl (am_fg rfl ((congrFun (by simp only [sI_ne (show (135 : Nat) ≠ 170 by decide), sI_ne (show (135 : Nat) ≠ 171 by decide), sI_ne (show (135 : Nat) ≠ 172 by decide), sI_ne (show (135 : Nat) ≠ 173 by decide), sI_ne (show (135 : Nat) ≠ 174 by decide), sI_ne (show (135 : Nat) ≠ 175 by decide)]) 77).trans hgn)) ?_
          refine ax_load (q := 88) rfl rfl rfl rfl rfl ?_
          refine ax_getf (q := 91) (v := am_I t) rfl rfl (am_fg rfl ((congrFun (by simp only [sI_ne (show (135 : Nat) ≠ 170 by decide), sI_ne (show (135 : Nat) ≠ 171 by decide), sI_ne (show (135 : Nat) ≠ 172 by decide), sI_ne (show (135 : Nat) ≠ 173 by decide), sI_ne (show (135 : Nat) ≠ 174 by decide), sI_ne (show (135 : Nat) ≠ 175 by decide)]) 78).trans ht)) ?_
          refine bx_iast (q := 92) (k := n) rfl rfl (rfl) (by omega) (by omega) ?_
          refine ax_load (q := 93) rfl rfl rfl rfl rfl ?_
          refine ax_getf (q := 96) (v := am_R 174) rfl rfl (rfl) ?_
          refine ax_load (q := 97) rfl rfl rfl rfl rfl ?_
          refine ax_getf (q := 100) (v := am_I ((n : Nat) : Int)) rfl rfl (am_fg rfl ((congrFun (by simp only [sI_ne (show (135 : Nat) ≠ 170 by decide), sI_ne (show (135 : Nat) ≠ 171 by decide), sI_ne (show (135 : Nat) ≠ 172 by decide), sI_ne (show (135 : Nat) ≠ 173 by decide), sI_ne (show (135 : Nat) ≠ 174 by decide), sI_ne (show (135 : Nat) ≠ 175 by decide)]) 77).trans hgn)) ?_
          refine ax_const (q := 101) (v := am_I (-1)) rfl rfl rfl ?_
          refine bx_iast (q := 102) (k := n) rfl rfl (rfl) (by omega) (by omega) ?_
          refine ax_load (q := 103) rfl rfl rfl rfl rfl ?_
          refine ax_dup (q := 104) rfl rfl rfl ?_
          refine ax_getf (q := 107) (v := am_I ((n : Nat) : Int)) rfl rfl (am_fg rfl ((congrFun (by simp only [sI_ne (show (135 : Nat) ≠ 170 by decide), sI_ne (show (135 : Nat) ≠ 171 by decide), sI_ne (show (135 : Nat) ≠ 172 by decide), sI_ne (show (135 : Nat) ≠ 173 by decide), sI_ne (show (135 : Nat) ≠ 174 by decide), sI_ne (show (135 : Nat) ≠ 175 by decide)]) 77).trans hgn)) ?_
          refine ax_const (q := 108) (v := am_I 1) rfl rfl rfl ?_
          refine ax_iadd (q := 109) (z := ((n + 1 : Nat) : Int)) rfl rfl (am_we (by omega) (by omega) (by omega)) ?_
          refine ax_putf (q := 112) rfl rfl rfl ?_
          refine ax_load (q := 113) rfl rfl rfl rfl rfl ?_
          refine ax_getf (q := 116) (v := am_I ((n + 1 : Nat) : Int)) rfl rfl (am_fg rfl (by rw [sI_at, am_up_same])) ?_
          refine ax_const (q := 117) (v := am_I 1) rfl rfl rfl ?_
          refine ax_isub (q := 118) (z := ((n : Nat) : Int)) rfl rfl (am_we (by omega) (by omega) (by omega)) ?_
          refine ax_ret (r := some (am_I ((n : Nat) : Int))) rfl rfl ?_
          have g := hY (by unfold inr_; rw [hb5, hb14, hb24, hb33]; rfl)
          refine Eq.mp (congrArg (fun s => Q _ s) ?_) g
          unfold sg_
          simp only [sI_ne (show (135 : Nat) ≠ 170 by decide), sI_ne (show (135 : Nat) ≠ 171 by decide), sI_ne (show (135 : Nat) ≠ 172 by decide), sI_ne (show (135 : Nat) ≠ 173 by decide), sI_ne (show (135 : Nat) ≠ 174 by decide), sI_ne (show (135 : Nat) ≠ 175 by decide), sI_ne (show (171 : Nat) ≠ 170 by decide), sI_ne (show (172 : Nat) ≠ 170 by decide), sI_ne (show (172 : Nat) ≠ 171 by decide), sI_ne (show (175 : Nat) ≠ 170 by decide), sI_ne (show (175 : Nat) ≠ 171 by decide), sI_ne (show (175 : Nat) ≠ 172 by decide), sI_ne (show (173 : Nat) ≠ 170 by decide), sI_ne (show (173 : Nat) ≠ 171 by decide), sI_ne (show (173 : Nat) ≠ 172 by decide), sI_ne (show (173 : Nat) ≠ 175 by decide), sI_ne (show (174 : Nat) ≠ 170 by decide), sI_ne (show (174 : Nat) ≠ 171 by decide), sI_ne (show (174 : Nat) ≠ 172 by decide), sI_ne (show (174 : Nat) ≠ 173 by decide), sI_ne (show (174 : Nat) ≠ 175 by decide)]
        · have hb33 : decide (¬ n = 30) = false := decide_eq_false (by omega)
          refine ax_const (q := 37) (v := am_I (-1)) rfl rfl rfl ?_
          refine ax_ret (r := some (am_I (-1))) rfl rfl ?_
          exact hN (by unfold inr_; first | (rw [hb5]; rfl) | (rw [hb14, Bool.false_and, Bool.and_false]) | (rw [hb24, Bool.false_and, Bool.and_false, Bool.and_false]) | (rw [hb33, Bool.and_false, Bool.and_false, Bool.and_false]))

theorem m_isBox {d : Nat} (hd : 1 ≤ d) {σ : am_S} {a : Int} {Q : Option am_V → am_S → Prop} (hQ : Q (some (am_I (if inr_ 3 a then 1 else 0))) σ) : am_Ev d 258 [am_I a] σ Q := by
  obtain ⟨d, rfl⟩ : ∃ e, d = e + 1 := ⟨d - 1, by omega⟩
  refine ev_in (m := 258) (c := k_X9_isBox) (L := [some (am_I a)]) rfl rfl rfl rfl rfl rfl ?_
  refine ax_load (q := 1) rfl rfl rfl rfl rfl ?_
  refine ax_if_lt (q := 4) (x := 13) rfl rfl (fun h1 => ?_) (fun h1 => ?_)
  · refine ax_const (q := 14) (v := am_I 0) rfl rfl rfl ?_
    refine ax_ret (r := some (am_I 0)) rfl ⟨rfl, Or.inl rfl⟩ ?_
    have e : inr_ 3 a = false := by unfold inr_; exact decide_eq_false (by omega)
    rw [e] at hQ
    exact hQ
  · refine ax_load (q := 5) rfl rfl rfl rfl rfl ?_
    refine ax_const (q := 6) (v := am_I 3) rfl rfl rfl ?_
    refine ax_icmp_ge (q := 9) (x := 13) rfl rfl (fun h6 => ?_) (fun h6 => ?_)
    · refine ax_const (q := 14) (v := am_I 0) rfl rfl rfl ?_
      refine ax_ret (r := some (am_I 0)) rfl ⟨rfl, Or.inl rfl⟩ ?_
      have e : inr_ 3 a = false := by unfold inr_; exact decide_eq_false (by omega)
      rw [e] at hQ
      exact hQ
    · refine ax_const (q := 10) (v := am_I 1) rfl rfl rfl ?_
      refine ax_goto (x := 14) rfl ?_
      refine ax_ret (r := some (am_I 1)) rfl ⟨rfl, Or.inr rfl⟩ ?_
      have e : inr_ 3 a = true := by unfold inr_; exact decide_eq_true (by omega)
      rw [e] at hQ
      exact hQ

theorem l_image {d : Nat} {σ : am_S} {b : Nat} (hb : b < 3) {Q : Option am_V → am_S → Prop} (hQ : aW d 0 k_X9_image Q 47 [some (am_R 135), some (am_I ((b : Nat) : Int)), some (am_I ((50 : Nat) : Int))] [] (am_sI (am_sI σ 176 (am_up (σ.1 176) b 1)) 177 (cd_ (σ.1 163) (σ.1 177) (50 * b) 50))) : ∀ (m k : Nat), k + m = 50 → aW d 0 k_X9_image Q 18 [some (am_R 135), some (am_I ((b : Nat) : Int)), some (am_I ((k : Nat) : Int))] [] (am_sI (am_sI σ 176 (am_up (σ.1 176) b 1)) 177 (cd_ (σ.1 163) (σ.1 177) (50 * b) k)) := by
  intro m
  induction m with
  | zero =>
    intro k hk
    obtain rfl : k = 50 := by omega
    refine ax_load (q := 19) rfl rfl rfl rfl rfl ?_
    refine ax_const (q := 21) (v := am_I 50) rfl rfl rfl ?_
    refine ax_icmp_ge (q := 24) (x := 47) rfl rfl (fun h21 => ?_) (fun h => absurd h (by omega))
    exact hQ
  | succ m ih =>
    intro k hk
    refine ax_load (q := 19) rfl rfl rfl rfl rfl ?_
    refine ax_const (q := 21) (v := am_I 50) rfl rfl rfl ?_
    refine ax_icmp_ge (q := 24) (x := 47) rfl rfl (fun h => absurd h (by omega)) (fun h21 => ?_)
    refine ax_load (q := 25) rfl rfl rfl rfl rfl ?_
    refine ax_getf (q := 28) (v := am_R 177) rfl rfl (rfl) ?_
    refine ax_const (q := 30) (v := am_I 50) rfl rfl rfl ?_
    refine ax_load (q := 31) rfl rfl rfl rfl rfl ?_
    refine ax_imul (q := 32) (z := ((50 * b : Nat) : Int)) rfl rfl (am_we (by omega) (by omega) (by omega)) ?_
    refine ax_load (q := 33) rfl rfl rfl rfl rfl ?_
    refine ax_iadd (q := 34) (z := (((50 * b) + k : Nat) : Int)) rfl rfl (am_we (by omega) (by omega) (by omega)) ?_
    refine ax_load (q := 35) rfl rfl rfl rfl rfl ?_
    refine ax_getf (q := 38) (v := am_R 163) rfl rfl (rfl) ?_
    refine ax_load (q := 39) rfl rfl rfl rfl rfl ?_
    refine bx_iald (q := 40) (k := k) (z := σ.1 163 k) rfl rfl (rfl) (by omega) (by omega) (congrFun ((sI_ne (by decide)).trans (sI_ne (by decide))) _) ?_
    refine bx_iast (q := 41) (k := (50 * b) + k) rfl rfl (rfl) (by omega) (by omega) ?_
    refine ax_iinc (q := 44) (z' := ((k + 1 : Nat) : Int)) (L' := [some (am_R 135), some (am_I ((b : Nat) : Int)), some (am_I ((k + 1 : Nat) : Int))]) rfl rfl rfl rfl (am_we (by omega) (by omega) (by omega)) rfl ?_
    refine ax_goto (x := 18) rfl ?_
    have g := ih (k + 1) (by omega)
    rw [← cd_step] at g
    rw [sI_sI, sI_at]
    exact g

theorem m_image {d : Nat} (hd : 2 ≤ d) {σ : am_S} {a : Int} {Q : Option am_V → am_S → Prop} (hN : inr_ 3 a = false → Q (some (am_I (-1))) σ) (hY : ∀ b : Nat, a = (b : Int) → b < 3 → Q (some (am_I (σ.1 163 49))) (am_sI (am_sI σ 176 (am_up (σ.1 176) b 1)) 177 (cd_ (σ.1 163) (σ.1 177) (50 * b) 50))) : am_Ev d 259 [am_R 135, am_I a] σ Q := by
  obtain ⟨d, rfl⟩ : ∃ e, d = e + 1 := ⟨d - 1, by omega⟩
  refine ev_in (m := 259) (c := k_X9_image) (L := [some (am_R 135), some (am_I a), none]) rfl rfl rfl rfl rfl rfl ?_
  refine ax_load (q := 1) rfl rfl rfl rfl rfl ?_
  refine ax_calls (q := 4) rfl rfl rfl rfl rfl ?_
  refine m_isBox (by omega) ?_
  refine ax_if_ne (q := 7) (x := 9) rfl rfl (fun h4 => ?_) (fun h4 => ?_)
  · have hb4 := it_n0 h4
    obtain ⟨b, rfl, hb⟩ := inr_t hb4
    refine ax_load (q := 10) rfl rfl rfl rfl rfl ?_
    refine ax_getf (q := 13) (v := am_R 176) rfl rfl (rfl) ?_
    refine ax_load (q := 14) rfl rfl rfl rfl rfl ?_
    refine ax_const (q := 15) (v := am_I 1) rfl rfl rfl ?_
    refine bx_zast (q := 16) (k := b) rfl rfl (rfl) (by omega) (by omega) (Or.inr rfl) ?_
    refine ax_const (q := 17) (v := am_I 0) rfl rfl rfl ?_
    refine ax_store (q := 18) (L' := [some (am_R 135), some (am_I ((b : Nat) : Int)), some (am_I 0)]) rfl rfl rfl rfl rfl rfl ?_
    have g := l_image (d := d) (σ := σ) (Q := Q) hb ?_ 50 0 (by omega)
    · rw [cd_0, ← sI_ne (show (177 : Nat) ≠ 176 by decide) (σ := σ) (f := am_up (σ.1 176) b 1), sI_id] at g
      exact g
    refine ax_load (q := 48) rfl rfl rfl rfl rfl ?_
    refine ax_getf (q := 51) (v := am_R 163) rfl rfl (rfl) ?_
    refine ax_const (q := 53) (v := am_I 49) rfl rfl rfl ?_
    refine bx_iald (q := 54) (k := 49) (z := σ.1 163 49) rfl rfl (rfl) (by omega) (by omega) (congrFun ((sI_ne (by decide)).trans (sI_ne (by decide))) _) ?_
    refine ax_ret (r := some (am_I (σ.1 163 49))) rfl rfl ?_
    exact hY b rfl hb
  · have hb4 := it_0 h4
    refine ax_const (q := 8) (v := am_I (-1)) rfl rfl rfl ?_
    refine ax_ret (r := some (am_I (-1))) rfl rfl ?_
    exact hN hb4

theorem l_back {d : Nat} {σ : am_S} {b : Nat} (hb : b < 3) {Q : Option am_V → am_S → Prop} (hQ : aW d 0 k_X9_back Q 49 [some (am_R 135), some (am_I ((b : Nat) : Int)), some (am_I ((50 : Nat) : Int))] [] (am_sI σ 163 (cp_ (fun j => σ.1 177 (50 * b + j)) (σ.1 163) 50))) : ∀ (m k : Nat), k + m = 50 → aW d 0 k_X9_back Q 20 [some (am_R 135), some (am_I ((b : Nat) : Int)), some (am_I ((k : Nat) : Int))] [] (am_sI σ 163 (cp_ (fun j => σ.1 177 (50 * b + j)) (σ.1 163) k)) := by
  intro m
  induction m with
  | zero =>
    intro k hk
    obtain rfl : k = 50 := by omega
    refine ax_load (q := 21) rfl rfl rfl rfl rfl ?_
    refine ax_const (q := 23) (v := am_I 50) rfl rfl rfl ?_
    refine ax_icmp_ge (q := 26) (x := 49) rfl rfl (fun h23 => ?_) (fun h => absurd h (by omega))
    exact hQ
  | succ m ih =>
    intro k hk
    refine ax_load (q := 21) rfl rfl rfl rfl rfl ?_
    refine ax_const (q := 23) (v := am_I 50) rfl rfl rfl ?_
    refine ax_icmp_ge (q := 26) (x := 49) rfl rfl (fun h => absurd h (by omega)) (fun h23 => ?_)
    refine ax_load (q := 27) rfl rfl rfl rfl rfl ?_
    refine ax_getf (q := 30) (v := am_R 163) rfl rfl (rfl) ?_
    refine ax_load (q := 31) rfl rfl rfl rfl rfl ?_
    refine ax_load (q := 32) rfl rfl rfl rfl rfl ?_
    refine ax_getf (q := 35) (v := am_R 177) rfl rfl (rfl) ?_
    refine ax_const (q := 37) (v := am_I 50) rfl rfl rfl ?_
    refine ax_load (q := 38) rfl rfl rfl rfl rfl ?_
    refine ax_imul (q := 39) (z := ((50 * b : Nat) : Int)) rfl rfl (am_we (by omega) (by omega) (by omega)) ?_
    refine ax_load (q := 40) rfl rfl rfl rfl rfl ?_
    refine ax_iadd (q := 41) (z := (((50 * b) + k : Nat) : Int)) rfl rfl (am_we (by omega) (by omega) (by omega)) ?_
    refine bx_iald (q := 42) (k := (50 * b) + k) (z := σ.1 177 (50 * b + k)) rfl rfl (rfl) (by omega) (by omega) (congrFun (sI_ne (by decide)) _) ?_
    refine bx_iast (q := 43) (k := k) rfl rfl (rfl) (by omega) (by omega) ?_
    refine ax_iinc (q := 46) (z' := ((k + 1 : Nat) : Int)) (L' := [some (am_R 135), some (am_I ((b : Nat) : Int)), some (am_I ((k + 1 : Nat) : Int))]) rfl rfl rfl rfl (am_we (by omega) (by omega) (by omega)) rfl ?_
    refine ax_goto (x := 20) rfl ?_
    have g := ih (k + 1) (by omega)
    rw [← cp_step] at g
    rw [sI_sI, sI_at]
    exact g

def bk_ (σ : am_S) (b : Nat) : am_S := am_sI (am_sI σ 163 (cp_ (fun j => σ.1 177 (50 * b + j)) (σ.1 163) 50)) 135 (am_up (am_up (σ.1 135) 64 0) 65 0)

theorem m_back {d : Nat} (hd : 2 ≤ d) {σ : am_S} {a : Int} (h176 : ∀ b, b < 3 → σ.1 176 b = 0 ∨ σ.1 176 b = 1) {Q : Option am_V → am_S → Prop} (hN : (inr_ 3 a && decide (σ.1 176 a.toNat = 1)) = false → Q (some (am_I (-1))) σ) (hY : ∀ b : Nat, a = (b : Int) → b < 3 → σ.1 176 b = 1 → Q (some (am_I (σ.1 177 (50 * b + 49)))) (bk_ σ b)) : am_Ev d 260 [am_R 135, am_I a] σ Q := by
  obtain ⟨d, rfl⟩ : ∃ e, d = e + 1 := ⟨d - 1, by omega⟩
  refine ev_in (m := 260) (c := k_X9_back) (L := [some (am_R 135), some (am_I a), none]) rfl rfl rfl rfl rfl rfl ?_
  refine ax_load (q := 1) rfl rfl rfl rfl rfl ?_
  refine ax_calls (q := 4) rfl rfl rfl rfl rfl ?_
  refine m_isBox (by omega) ?_
  refine ax_if_eq (q := 7) (x := 16) rfl rfl (fun h4 => ?_) (fun h4 => ?_)
  · have hb4 := it_0 h4
    refine ax_const (q := 17) (v := am_I (-1)) rfl rfl rfl ?_
    refine ax_ret (r := some (am_I (-1))) rfl rfl ?_
    exact hN (by first | (rw [hb4]; rfl) | (rw [hb4, Bool.true_and]; exact decide_eq_false (by rw [Int.toNat_natCast]; omega)))
  · have hb4 := it_n0 h4
    obtain ⟨b, rfl, hb⟩ := inr_t hb4
    refine ax_load (q := 8) rfl rfl rfl rfl rfl ?_
    refine ax_getf (q := 11) (v := am_R 176) rfl rfl (rfl) ?_
    refine ax_load (q := 12) rfl rfl rfl rfl rfl ?_
    refine bx_bald (q := 13) (k := b) (z := σ.1 176 b) rfl rfl (Or.inr rfl) (by omega) (by omega) (rfl) ?_
    refine ax_if_ne (q := 16) (x := 18) rfl rfl (fun h13 => ?_) (fun h13 => ?_)
    · refine ax_const (q := 19) (v := am_I 0) rfl rfl rfl ?_
      refine ax_store (q := 20) (L' := [some (am_R 135), some (am_I ((b : Nat) : Int)), some (am_I 0)]) rfl rfl rfl rfl rfl rfl ?_
      have h1 : σ.1 176 b = 1 := by have := h176 b hb; omega
      have g := l_back (d := d) (σ := σ) (Q := Q) hb ?_ 50 0 (by omega)
      · rw [cp_0, sI_id] at g
        exact g
      refine ax_load (q := 50) rfl rfl rfl rfl rfl ?_
      refine ax_const (q := 51) (v := am_I 0) rfl rfl rfl ?_
      refine ax_putf (q := 54) rfl rfl rfl ?_
      refine ax_load (q := 55) rfl rfl rfl rfl rfl ?_
      refine ax_const (q := 56) (v := am_I 0) rfl rfl rfl ?_
      refine ax_putf (q := 59) rfl rfl rfl ?_
      refine ax_load (q := 60) rfl rfl rfl rfl rfl ?_
      refine ax_getf (q := 63) (v := am_R 163) rfl rfl (rfl) ?_
      refine ax_const (q := 65) (v := am_I 49) rfl rfl rfl ?_
      refine bx_iald (q := 66) (k := 49) (z := σ.1 177 (50 * b + 49)) rfl rfl (rfl) (by omega) (by omega) ((congrFun ((sI_ne (by decide)).trans ((sI_ne (by decide)).trans (sI_at _ _ _))) _).trans (cp_at (by decide))) ?_
      refine ax_ret (r := some (am_I (σ.1 177 (50 * b + 49)))) rfl rfl ?_
      refine Eq.mp (congrArg (fun s => Q _ s) ?_) (hY b rfl hb h1)
      unfold bk_
      simp only [sI_sI, sI_at, sI_ne (show (135 : Nat) ≠ 163 by decide)]
    · refine ax_const (q := 17) (v := am_I (-1)) rfl rfl rfl ?_
      refine ax_ret (r := some (am_I (-1))) rfl rfl ?_
      exact hN (by first | (rw [hb4]; rfl) | (rw [hb4, Bool.true_and]; exact decide_eq_false (by rw [Int.toNat_natCast]; omega)))

def F_about (σ : am_S) (k : Int) : Int := if k = 0 then σ.1 135 53 else if k = 1 then σ.1 135 50 else if k = 2 then σ.1 135 51 else if k = 3 then σ.1 135 52 else if k = 4 then σ.1 135 54 else if k = 5 then σ.1 163 49 else if k = 6 then σ.1 135 56 else if k = 7 then σ.1 135 55 else if k = 8 then σ.1 135 64 else if k = 9 then σ.1 135 65 else if k = 10 then σ.1 135 77 else if k = 11 then σ.1 135 78 else if k = 12 then σ.1 135 1 else if k = 13 then σ.1 135 21 else if k = 14 then σ.1 135 68 else -1

theorem m_about {d : Nat} (hd : 1 ≤ d) {σ : am_S} {k : Int} {Q : Option am_V → am_S → Prop} (hQ : Q (some (am_I (F_about σ k))) σ) : am_Ev d 261 [am_R 135, am_I k] σ Q := by
  obtain ⟨d, rfl⟩ : ∃ e, d = e + 1 := ⟨d - 1, by omega⟩
  refine ev_in (m := 261) (c := k_X9_about) (L := [some (am_R 135), some (am_I k)]) rfl rfl rfl rfl rfl rfl ?_
  refine ax_load (q := 1) rfl rfl rfl rfl rfl ?_
  by_cases hk : k = 0 ∨ k = 1 ∨ k = 2 ∨ k = 3 ∨ k = 4 ∨ k = 5 ∨ k = 6 ∨ k = 7 ∨ k = 8 ∨ k = 9 ∨ k = 10 ∨ k = 11 ∨ k = 12 ∨ k = 13 ∨ k = 14
  rcases hk with rfl | rfl | rfl | rfl | rfl | rfl | rfl | rfl | rfl | rfl | rfl | rfl | rfl | rfl | rfl
  · refine ax_tsw (q := 76) rfl (by decide) ?_
    refine ax_load (q := 77) rfl rfl rfl rfl rfl ?_
    refine ax_getf (q := 80) (v := am_I (σ.1 135 53)) rfl rfl (rfl) ?_
    refine ax_ret (r := some (am_I (σ.1 135 53))) rfl rfl ?_
    refine Eq.mp (congrArg (fun z => Q (some (am_I z)) σ) ?_) hQ
    unfold F_about
    first | rfl | simp [*]
  · refine ax_tsw (q := 81) rfl (by decide) ?_
    refine ax_load (q := 82) rfl rfl rfl rfl rfl ?_
    refine ax_getf (q := 85) (v := am_I (σ.1 135 50)) rfl rfl (rfl) ?_
    refine ax_ret (r := some (am_I (σ.1 135 50))) rfl rfl ?_
    refine Eq.mp (congrArg (fun z => Q (some (am_I z)) σ) ?_) hQ
    unfold F_about
    first | rfl | simp [*]
  · refine ax_tsw (q := 86) rfl (by decide) ?_
    refine ax_load (q := 87) rfl rfl rfl rfl rfl ?_
    refine ax_getf (q := 90) (v := am_I (σ.1 135 51)) rfl rfl (rfl) ?_
    refine ax_ret (r := some (am_I (σ.1 135 51))) rfl rfl ?_
    refine Eq.mp (congrArg (fun z => Q (some (am_I z)) σ) ?_) hQ
    unfold F_about
    first | rfl | simp [*]
  · refine ax_tsw (q := 91) rfl (by decide) ?_
    refine ax_load (q := 92) rfl rfl rfl rfl rfl ?_
    refine ax_getf (q := 95) (v := am_I (σ.1 135 52)) rfl rfl (rfl) ?_
    refine ax_ret (r := some (am_I (σ.1 135 52))) rfl rfl ?_
    refine Eq.mp (congrArg (fun z => Q (some (am_I z)) σ) ?_) hQ
    unfold F_about
    first | rfl | simp [*]
  · refine ax_tsw (q := 96) rfl (by decide) ?_
    refine ax_load (q := 97) rfl rfl rfl rfl rfl ?_
    refine ax_getf (q := 100) (v := am_I (σ.1 135 54)) rfl rfl (rfl) ?_
    refine ax_ret (r := some (am_I (σ.1 135 54))) rfl rfl ?_
    refine Eq.mp (congrArg (fun z => Q (some (am_I z)) σ) ?_) hQ
    unfold F_about
    first | rfl | simp [*]
  · refine ax_tsw (q := 101) rfl (by decide) ?_
    refine ax_load (q := 102) rfl rfl rfl rfl rfl ?_
    refine ax_getf (q := 105) (v := am_R 163) rfl rfl (rfl) ?_
    refine ax_const (q := 107) (v := am_I 49) rfl rfl rfl ?_
    refine bx_iald (q := 108) (k := 49) (z := σ.1 163 49) rfl rfl (rfl) (by omega) (by omega) (rfl) ?_
    refine ax_ret (r := some (am_I (σ.1 163 49))) rfl rfl ?_
    refine Eq.mp (congrArg (fun z => Q (some (am_I z)) σ) ?_) hQ
    unfold F_about
    first | rfl | simp [*]
  · refine ax_tsw (q := 109) rfl (by decide) ?_
    refine ax_load (q := 110) rfl rfl rfl rfl rfl ?_
    refine ax_getf (q := 113) (v := am_I (σ.1 135 56)) rfl rfl (rfl) ?_
    refine ax_ret (r := some (am_I (σ.1 135 56))) rfl rfl ?_
    refine Eq.mp (congrArg (fun z => Q (some (am_I z)) σ) ?_) hQ
    unfold F_about
    first | rfl | simp [*]
  · refine ax_tsw (q := 114) rfl (by decide) ?_
    refine ax_load (q := 115) rfl rfl rfl rfl rfl ?_
    refine ax_getf (q := 118) (v := am_I (σ.1 135 55)) rfl rfl (rfl) ?_
    refine ax_ret (r := some (am_I (σ.1 135 55))) rfl rfl ?_
    refine Eq.mp (congrArg (fun z => Q (some (am_I z)) σ) ?_) hQ
    unfold F_about
    first | rfl | simp [*]
  · refine ax_tsw (q := 119) rfl (by decide) ?_
    refine ax_load (q := 120) rfl rfl rfl rfl rfl ?_
    refine ax_getf (q := 123) (v := am_I (σ.1 135 64)) rfl rfl (rfl) ?_
    refine ax_ret (r := some (am_I (σ.1 135 64))) rfl rfl ?_
    refine Eq.mp (congrArg (fun z => Q (some (am_I z)) σ) ?_) hQ
    unfold F_about
    first | rfl | simp [*]
  · refine ax_tsw (q := 124) rfl (by decide) ?_
    refine ax_load (q := 125) rfl rfl rfl rfl rfl ?_
    refine ax_getf (q := 128) (v := am_I (σ.1 135 65)) rfl rfl (rfl) ?_
    refine ax_ret (r := some (am_I (σ.1 135 65))) rfl rfl ?_
    refine Eq.mp (congrArg (fun z => Q (some (am_I z)) σ) ?_) hQ
    unfold F_about
    first | rfl | simp [*]
  · refine ax_tsw (q := 129) rfl (by decide) ?_
    refine ax_load (q := 130) rfl rfl rfl rfl rfl ?_
    refine ax_getf (q := 133) (v := am_I (σ.1 135 77)) rfl rfl (rfl) ?_
    refine ax_ret (r := some (am_I (σ.1 135 77))) rfl rfl ?_
    refine Eq.mp (congrArg (fun z => Q (some (am_I z)) σ) ?_) hQ
    unfold F_about
    first | rfl | simp [*]
  · refine ax_tsw (q := 134) rfl (by decide) ?_
    refine ax_load (q := 135) rfl rfl rfl rfl rfl ?_
    refine ax_getf (q := 138) (v := am_I (σ.1 135 78)) rfl rfl (rfl) ?_
    refine ax_ret (r := some (am_I (σ.1 135 78))) rfl rfl ?_
    refine Eq.mp (congrArg (fun z => Q (some (am_I z)) σ) ?_) hQ
    unfold F_about
    first | rfl | simp [*]
  · refine ax_tsw (q := 139) rfl (by decide) ?_
    refine ax_load (q := 140) rfl rfl rfl rfl rfl ?_
    refine ax_getf (q := 143) (v := am_I (σ.1 135 1)) rfl rfl (rfl) ?_
    refine ax_ret (r := some (am_I (σ.1 135 1))) rfl rfl ?_
    refine Eq.mp (congrArg (fun z => Q (some (am_I z)) σ) ?_) hQ
    unfold F_about
    first | rfl | simp [*]
  · refine ax_tsw (q := 144) rfl (by decide) ?_
    refine ax_load (q := 145) rfl rfl rfl rfl rfl ?_
    refine ax_getf (q := 148) (v := am_I (σ.1 135 21)) rfl rfl (rfl) ?_
    refine ax_ret (r := some (am_I (σ.1 135 21))) rfl rfl ?_
    refine Eq.mp (congrArg (fun z => Q (some (am_I z)) σ) ?_) hQ
    unfold F_about
    first | rfl | simp [*]
  · refine ax_tsw (q := 149) rfl (by decide) ?_
    refine ax_load (q := 150) rfl rfl rfl rfl rfl ?_
    refine ax_getf (q := 153) (v := am_I (σ.1 135 68)) rfl rfl (rfl) ?_
    refine ax_ret (r := some (am_I (σ.1 135 68))) rfl rfl ?_
    refine Eq.mp (congrArg (fun z => Q (some (am_I z)) σ) ?_) hQ
    unfold F_about
    first | rfl | simp [*]
  · simp only [not_or] at hk
    refine ax_tsw (q := 154) rfl (by unfold am_tsw; rw [if_pos (by omega)]; rfl) ?_
    refine ax_const (q := 155) (v := am_I (-1)) rfl rfl rfl ?_
    refine ax_ret (r := some (am_I (-1))) rfl rfl ?_
    refine Eq.mp (congrArg (fun z => Q (some (am_I z)) σ) ?_) hQ
    unfold F_about
    first | rfl | simp [*]

