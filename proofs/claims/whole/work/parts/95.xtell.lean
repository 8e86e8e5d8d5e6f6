def gu_ (G : Nat → Nat → Int) (n : Nat) (a b c e t : Int) : Nat → Nat → Int
  | 0 => am_up (G 0) n a
  | 1 => am_up (G 1) n b
  | 2 => am_up (G 2) n c
  | 3 => am_up (G 3) n t
  | 4 => am_up (G 4) n (-1)
  | 5 => am_up (G 5) n e
  | k => G k
def hs_ (σ σ' : am_S) : Prop := (∀ b, (b < 127 ∨ 133 < b) → σ'.1 b = σ.1 b) ∧ σ'.2 = σ.2
theorem up_n {f g : Nat → Int} {n : Nat} {z : Int} (h : ∀ j, j < n → f j = g j) : ∀ j, j < n + 1 → am_up f n z j = am_up g n z j := by
  intro j hj
  by_cases q : j = n
  · rw [q, am_up_same, am_up_same]
  · rw [am_up_ne q, am_up_ne q]; exact h j (by omega)

theorem x_tell {d : Nat} (hd : 1 ≤ d) {σ : am_S} {G : Nat → Nat → Int} {n : Nat} (hS : XS_ G n σ) {a b c e t : Int} (he : e = 0 ∨ e = 1) (hb2 : 0 ≤ b ∧ b ≤ 2) {Q : Option am_V → am_S → Prop} (hN : n = 30 → Q (some (am_I (-1))) σ) (hY : n < 30 → ∀ σ', hs_ σ σ' → XS_ (gu_ G n a b c e t) (n + 1) σ' → Q (some (am_I ((n : Nat) : Int))) σ') : am_Ev d 80 [am_R 127, am_I a, am_I b, am_I c, am_I e, am_I t] σ Q := by
  obtain ⟨d, rfl⟩ : ∃ e, d = e + 1 := ⟨d - 1, by omega⟩
  have hn := hS.le
  refine ev_in (m := 80) (c := k_X6_tell) (L := [some (am_R 127), some (am_I a), some (am_I b), some (am_I c), some (am_I e), some (am_I t)]) rfl rfl rfl rfl rfl rfl ?_
  refine ax_load (q := 1) rfl rfl rfl rfl rfl ?_
  refine ax_getf (q := 4) (v := am_I ((n : Nat) : Int)) rfl rfl (am_fg rfl hS.ct) ?_
  refine ax_const (q := 6) (v := am_I 30) rfl rfl rfl ?_
  refine ax_icmp_lt (q := 9) (x := 11) rfl rfl (fun h6 => ?_) (fun h6 => ?_)
  · refine ax_load (q := 12) rfl rfl rfl rfl rfl ?_
    refine ax_getf (q := 15) (v := am_R 128) rfl rfl (rfl) ?_
    refine ax_load (q := 16) rfl rfl rfl rfl rfl ?_
    refine ax_getf (q := 19) (v := am_I ((n : Nat) : Int)) rfl rfl (am_fg rfl hS.ct) ?_
    refine ax_load (q := 20) rfl rfl rfl rfl rfl ?_
    refine bx_iast (q := 21) (k := n) rfl rfl (rfl) (by omega) (by omega) ?_
    refine ax_load (q := 22) rfl rfl rfl rfl rfl ?_
    refine ax_getf (q := 25) (v := am_R 129) rfl rfl (rfl) ?_
    refine ax_load (q := 26) rfl rfl rfl rfl rfl ?_
    refine ax_getf (q := 29) (v := am_I ((n : Nat) : Int)) rfl rfl (am_fg rfl hS.ct) ?_
    refine ax_load (q := 30) rfl rfl rfl rfl rfl ?_
    refine bx_iast (q := 31) (k := n) rfl rfl (rfl) (by omega) (by omega) ?_
    refine ax_load (q := 32) rfl rfl rfl rfl rfl ?_
    refine ax_getf (q := 35) (v := am_R 130) rfl rfl (rfl) ?_
    refine ax_load (q := 36) rfl rfl rfl rfl rfl ?_
    refine ax_getf (q := 39) (v := am_I ((n : Nat) : Int)) rfl rfl (am_fg rfl hS.ct) ?_
    refine ax_load (q := 40) rfl rfl rfl rfl rfl ?_
    refine bx_iast (q := 41) (k := n) rfl rfl (rfl) (by omega) (by omega) ?_
    refine ax_load (q := 42) rfl rfl rfl rfl rfl ?_
    refine ax_getf (q := 45) (v := am_R 131) rfl rfl (rfl) ?_
    refine ax_load (q := 46) rfl rfl rfl rfl rfl ?_
    refine ax_getf (q := 49) (v := am_I ((n : Nat) : Int)) rfl rfl (am_fg rfl hS.ct) ?_
    refine ax_load (q := 51) rfl rfl rfl rfl rfl ?_
    refine bx_zast (q := 52) (k := n) rfl rfl (rfl) (by omega) (by omega) (he) ?_
    refine ax_load (q := 53) rfl rfl rfl rfl rfl ?_
    refine ax_getf (q := 56) (v := am_R 132) rfl rfl (rfl) ?_
    refine ax_load (q := 57) rfl rfl rfl rfl rfl ?_
    refine ax_getf (q := 60) (v := am_I ((n : Nat) : Int)) rfl rfl (am_fg rfl hS.ct) ?_
    refine ax_load (q := 62) rfl rfl rfl rfl rfl ?_
    refine bx_iast (q := 63) (k := n) rfl rfl (rfl) (by omega) (by omega) ?_
    refine ax_load (q := 64) rfl rfl rfl rfl rfl ?_
    refine ax_getf (q := 67) (v := am_R 133) rfl rfl (rfl) ?_
    refine ax_load (q := 68) rfl rfl rfl rfl rfl ?_
    refine ax_getf (q := 71) (v := am_I ((n : Nat) : Int)) rfl rfl (am_fg rfl hS.ct) ?_
    refine ax_const (q := 72) (v := am_I (-1)) rfl rfl rfl ?_
    refine bx_iast (q := 73) (k := n) rfl rfl (rfl) (by omega) (by omega) ?_
    refine ax_load (q := 74) rfl rfl rfl rfl rfl ?_
    refine ax_dup (q := 75) rfl rfl rfl ?_
    refine ax_getf (q := 78) (v := am_I ((n : Nat) : Int)) rfl rfl (am_fg rfl hS.ct) ?_
    refine ax_const (q := 79) (v := am_I 1) rfl rfl rfl ?_
    refine ax_iadd (q := 80) (z := ((n + 1 : Nat) : Int)) rfl rfl (am_we (by omega) (by omega) (by omega)) ?_
    refine ax_putf (q := 83) rfl rfl rfl ?_
    refine ax_load (q := 84) rfl rfl rfl rfl rfl ?_
    refine ax_getf (q := 87) (v := am_I ((n + 1 : Nat) : Int)) rfl rfl (am_fg rfl (by rw [sI_at, am_up_same])) ?_
    refine ax_const (q := 88) (v := am_I 1) rfl rfl rfl ?_
    refine ax_isub (q := 89) (z := ((n + 1 : Nat) : Int) - 1) rfl rfl (am_we (by omega) (by omega) (by omega)) ?_
    refine ax_ret (r := some (am_I (((n + 1 : Nat) : Int) - 1))) rfl rfl ?_
    refine Eq.mp (congrArg (fun z => Q (some (am_I z)) _) (show ((n : Nat) : Int) = ((n + 1 : Nat) : Int) - 1 by omega)) ?_
    refine hY (by omega) _ ⟨fun b hb => ?_, rfl⟩ ⟨?_, by omega, ?_, ?_, ?_, ?_, ?_, ?_, ?_, ?_, ?_⟩
    · simp only [sI_ne (show b ≠ 127 by omega), sI_ne (show b ≠ 128 by omega), sI_ne (show b ≠ 129 by omega), sI_ne (show b ≠ 130 by omega), sI_ne (show b ≠ 131 by omega), sI_ne (show b ≠ 132 by omega), sI_ne (show b ≠ 133 by omega)]
    · rw [sI_at, am_up_same]
    · intro j hj
      exact up_n hS.pe j hj
    · intro j hj
      exact up_n hS.so j hj
    · intro j hj
      exact up_n hS.nu j hj
    · intro j hj
      exact up_n hS.ar j hj
    · intro j hj
      exact up_n hS.at_ j hj
    · intro j hj
      exact up_n hS.un j hj
    · intro j hj
      show 0 ≤ am_up (G 1) n b j ∧ am_up (G 1) n b j ≤ 2
      by_cases q : j = n
      · rw [q, am_up_same]; exact hb2
      · rw [am_up_ne q]; exact hS.s2 j (by omega)
    · intro j hj
      show am_up (G 5) n e j = 0 ∨ am_up (G 5) n e j = 1
      by_cases q : j = n
      · rw [q, am_up_same]; exact he
      · rw [am_up_ne q]; exact hS.a1 j (by omega)
    · intro j hj
      show am_up (G 4) n (-1) j = -1 ∨ 0 ≤ am_up (G 4) n (-1) j
      by_cases q : j = n
      · rw [q, am_up_same]; exact Or.inl rfl
      · rw [am_up_ne q]; exact hS.u1 j (by omega)
  · refine ax_const (q := 10) (v := am_I (-1)) rfl rfl rfl ?_
    refine ax_ret (r := some (am_I (-1))) rfl rfl ?_
    exact hN (by omega)

theorem x_sign {d : Nat} (hd : 3 ≤ d) {σ : am_S} {t : Nat} {T : sp_T} {v : sp_V} (hL : PL_ 68 t T v σ) (hV : TV_ T) {G : Nat → Nat → Int} {n : Nat} (hS : XS_ G n σ) {t2 : Int} (htm : σ.1 0 12 = t2) {a b c e : Int} (he : e = 0 ∨ e = 1) {Q : Option am_V → am_S → Prop} (hN : (inr_ (nP_ T) a && (decide (0 ≤ b ∧ b ≤ 2) && (decide (0 ≤ c ∧ c ≤ 9) && decide (¬ n = 30)))) = false → Q (some (am_I (-1))) σ) (hY : (inr_ (nP_ T) a && (decide (0 ≤ b ∧ b ≤ 2) && (decide (0 ≤ c ∧ c ≤ 9) && decide (¬ n = 30)))) = true → ∀ σ', hs_ σ σ' → XS_ (gu_ G n a b c e t2) (n + 1) σ' → Q (some (am_I ((n : Nat) : Int))) σ') : am_Ev d 130 [am_R 0, am_I a, am_I b, am_I c, am_I e] σ Q := by
  obtain ⟨d, rfl⟩ : ∃ e, d = e + 1 := ⟨d - 1, by omega⟩
  have h6 := hV.nP
  have hO8 := hV.nO
  have hS4 := hV.nS
  have hR3 := hV.nR
  refine ev_in (m := 130) (c := k_X8_sign) (L := [some (am_R 0), some (am_I a), some (am_I b), some (am_I c), some (am_I e)]) rfl rfl rfl rfl rfl rfl ?_
  refine ax_load (q := 1) rfl rfl rfl rfl rfl ?_
  refine ax_getf (q := 4) (v := am_R 68) rfl rfl (rfl) ?_
  refine ax_getf (q := 7) (v := am_R t) rfl rfl (am_fgR rfl hL.to) ?_
  refine ax_const (q := 8) (v := am_I 0) rfl rfl rfl ?_
  refine ax_load (q := 9) rfl rfl rfl rfl rfl ?_
  refine ax_callv (q := 12) rfl rfl rfl rfl rfl (kd_0 hL.ht) ?_
  refine x_has0 (by omega) hL.xt hV ?_
  rw [hs_i]
  refine ax_if_eq (q := 15) (x := 34) rfl rfl (fun h12 => ?_) (fun h12 => ?_)
  · have hb12 := it_0 h12
    refine ax_const (q := 35) (v := am_I (-1)) rfl rfl rfl ?_
    refine ax_ret (r := some (am_I (-1))) rfl rfl ?_
    refine hN ?_
    first | (rw [hb12]; rfl) | (rw [show decide (0 ≤ b ∧ b ≤ 2) = false from decide_eq_false (by omega), Bool.false_and, Bool.and_false]) | (rw [show decide (0 ≤ c ∧ c ≤ 9) = false from decide_eq_false (by omega), Bool.false_and, Bool.and_false, Bool.and_false]) | (rw [show decide (¬ n = 30) = false from decide_eq_false (by omega), Bool.and_false, Bool.and_false, Bool.and_false])
  · have hb12 := it_n0 h12
    obtain ⟨p, rfl, hp⟩ := inr_t hb12
    refine ax_load (q := 16) rfl rfl rfl rfl rfl ?_
    refine ax_if_lt (q := 19) (x := 34) rfl rfl (fun h16 => ?_) (fun h16 => ?_)
    · refine ax_const (q := 35) (v := am_I (-1)) rfl rfl rfl ?_
      refine ax_ret (r := some (am_I (-1))) rfl rfl ?_
      refine hN ?_
      first | (rw [hb12]; rfl) | (rw [show decide (0 ≤ b ∧ b ≤ 2) = false from decide_eq_false (by omega), Bool.false_and, Bool.and_false]) | (rw [show decide (0 ≤ c ∧ c ≤ 9) = false from decide_eq_false (by omega), Bool.false_and, Bool.and_false, Bool.and_false]) | (rw [show decide (¬ n = 30) = false from decide_eq_false (by omega), Bool.and_false, Bool.and_false, Bool.and_false])
    · refine ax_load (q := 20) rfl rfl rfl rfl rfl ?_
      refine ax_const (q := 21) (v := am_I 3) rfl rfl rfl ?_
      refine ax_icmp_ge (q := 24) (x := 34) rfl rfl (fun h21 => ?_) (fun h21 => ?_)
      · refine ax_const (q := 35) (v := am_I (-1)) rfl rfl rfl ?_
        refine ax_ret (r := some (am_I (-1))) rfl rfl ?_
        refine hN ?_
        first | (rw [hb12]; rfl) | (rw [show decide (0 ≤ b ∧ b ≤ 2) = false from decide_eq_false (by omega), Bool.false_and, Bool.and_false]) | (rw [show decide (0 ≤ c ∧ c ≤ 9) = false from decide_eq_false (by omega), Bool.false_and, Bool.and_false, Bool.and_false]) | (rw [show decide (¬ n = 30) = false from decide_eq_false (by omega), Bool.and_false, Bool.and_false, Bool.and_false])
      · refine ax_load (q := 25) rfl rfl rfl rfl rfl ?_
        refine ax_if_lt (q := 28) (x := 34) rfl rfl (fun h25 => ?_) (fun h25 => ?_)
        · refine ax_const (q := 35) (v := am_I (-1)) rfl rfl rfl ?_
          refine ax_ret (r := some (am_I (-1))) rfl rfl ?_
          refine hN ?_
          first | (rw [hb12]; rfl) | (rw [show decide (0 ≤ b ∧ b ≤ 2) = false from decide_eq_false (by omega), Bool.false_and, Bool.and_false]) | (rw [show decide (0 ≤ c ∧ c ≤ 9) = false from decide_eq_false (by omega), Bool.false_and, Bool.and_false, Bool.and_false]) | (rw [show decide (¬ n = 30) = false from decide_eq_false (by omega), Bool.and_false, Bool.and_false, Bool.and_false])
        · refine ax_load (q := 29) rfl rfl rfl rfl rfl ?_
          refine ax_const (q := 31) (v := am_I 9) rfl rfl rfl ?_
          refine ax_icmp_le (q := 34) (x := 36) rfl rfl (fun h31 => ?_) (fun h31 => ?_)
          · refine ax_load (q := 37) rfl rfl rfl rfl rfl ?_
            refine ax_getf (q := 40) (v := am_R 127) rfl rfl (rfl) ?_
            refine ax_load (q := 41) rfl rfl rfl rfl rfl ?_
            refine ax_load (q := 42) rfl rfl rfl rfl rfl ?_
            refine ax_load (q := 43) rfl rfl rfl rfl rfl ?_
            refine ax_load (q := 45) rfl rfl rfl rfl rfl ?_
            refine ax_load (q := 46) rfl rfl rfl rfl rfl ?_
            refine ax_getf (q := 49) (v := am_I t2) rfl rfl (am_fg rfl htm) ?_
            refine ax_callv (q := 52) rfl rfl rfl rfl rfl rfl ?_
            refine x_tell (by omega) hS (a := ((p : Nat) : Int)) he (by omega) (fun h30 => ?_) (fun h30 σ1 hf1 hS1 => ?_)
            · refine ax_ret (r := some (am_I (-1))) rfl rfl ?_
              refine hN ?_
              first | (rw [hb12]; rfl) | (rw [show decide (0 ≤ b ∧ b ≤ 2) = false from decide_eq_false (by omega), Bool.false_and, Bool.and_false]) | (rw [show decide (0 ≤ c ∧ c ≤ 9) = false from decide_eq_false (by omega), Bool.false_and, Bool.and_false, Bool.and_false]) | (rw [show decide (¬ n = 30) = false from decide_eq_false (by omega), Bool.and_false, Bool.and_false, Bool.and_false])
            · refine ax_ret (r := some (am_I ((n : Nat) : Int))) rfl rfl ?_
              exact hY (by rw [hb12, decide_eq_true (by omega), decide_eq_true (by omega), decide_eq_true (by omega)]; rfl) _ hf1 hS1
          · refine ax_const (q := 35) (v := am_I (-1)) rfl rfl rfl ?_
            refine ax_ret (r := some (am_I (-1))) rfl rfl ?_
            refine hN ?_
            first | (rw [hb12]; rfl) | (rw [show decide (0 ≤ b ∧ b ≤ 2) = false from decide_eq_false (by omega), Bool.false_and, Bool.and_false]) | (rw [show decide (0 ≤ c ∧ c ≤ 9) = false from decide_eq_false (by omega), Bool.false_and, Bool.and_false, Bool.and_false]) | (rw [show decide (¬ n = 30) = false from decide_eq_false (by omega), Bool.and_false, Bool.and_false, Bool.and_false])

theorem x_takesBack {d : Nat} (hd : 1 ≤ d) {σ : am_S} {G : Nat → Nat → Int} {n : Nat} (hS : XS_ G n σ) {t : Int} (ht0 : 0 ≤ t) {a : Int} {Q : Option am_V → am_S → Prop} (hN : (inr_ n a && decide (G 4 a.toNat < 0)) = false → Q (some (am_I 0)) σ) (hY : (inr_ n a && decide (G 4 a.toNat < 0)) = true → ∀ σ', hs_ σ σ' → XS_ (fun k => if k = 4 then am_up (G 4) a.toNat t else G k) n σ' → Q (some (am_I 1)) σ') : am_Ev d 81 [am_R 127, am_I a, am_I t] σ Q := by
  obtain ⟨d, rfl⟩ : ∃ e, d = e + 1 := ⟨d - 1, by omega⟩
  have hn := hS.le
  have ha : (a < 0 ∨ (n : Int) ≤ a) ∨ ∃ p : Nat, a = (p : Int) ∧ p < n := by
    by_cases q : a < 0 ∨ (n : Int) ≤ a
    · exact Or.inl q
    · exact Or.inr ⟨a.toNat, by omega, by omega⟩
  refine ev_in (m := 81) (c := k_X6_takesBack) (L := [some (am_R 127), some (am_I a), some (am_I t)]) rfl rfl rfl rfl rfl rfl ?_
  rcases ha with ha | ⟨p, rfl, hp⟩
  · refine ax_load (q := 1) rfl rfl rfl rfl rfl ?_
    refine ax_if_lt (q := 4) (x := 22) rfl rfl (fun h1 => ?_) (fun h1 => ?_)
    · refine ax_const (q := 23) (v := am_I 0) rfl rfl rfl ?_
      refine ax_ret (r := some (am_I 0)) rfl ⟨rfl, Or.inl rfl⟩ ?_
      exact hN (by rw [show inr_ n a = false from decide_eq_false (by omega)]; rfl)
    · refine ax_load (q := 5) rfl rfl rfl rfl rfl ?_
      refine ax_load (q := 6) rfl rfl rfl rfl rfl ?_
      refine ax_getf (q := 9) (v := am_I ((n : Nat) : Int)) rfl rfl (am_fg rfl hS.ct) ?_
      refine ax_icmp_ge (q := 12) (x := 22) rfl rfl (fun h9 => ?_) (fun h => absurd h (by omega))
      refine ax_const (q := 23) (v := am_I 0) rfl rfl rfl ?_
      refine ax_ret (r := some (am_I 0)) rfl ⟨rfl, Or.inl rfl⟩ ?_
      exact hN (by rw [show inr_ n a = false from decide_eq_false (by omega)]; rfl)
  · have hu := hS.u1 p hp
    refine ax_load (q := 1) rfl rfl rfl rfl rfl ?_
    refine ax_if_lt (q := 4) (x := 22) rfl rfl (fun h => absurd h (by omega)) (fun h1 => ?_)
    refine ax_load (q := 5) rfl rfl rfl rfl rfl ?_
    refine ax_load (q := 6) rfl rfl rfl rfl rfl ?_
    refine ax_getf (q := 9) (v := am_I ((n : Nat) : Int)) rfl rfl (am_fg rfl hS.ct) ?_
    refine ax_icmp_ge (q := 12) (x := 22) rfl rfl (fun h => absurd h (by omega)) (fun h9 => ?_)
    refine ax_load (q := 13) rfl rfl rfl rfl rfl ?_
    refine ax_getf (q := 16) (v := am_R 133) rfl rfl (rfl) ?_
    refine ax_load (q := 17) rfl rfl rfl rfl rfl ?_
    refine bx_iald (q := 18) (k := p) (z := G 4 p) rfl rfl (rfl) (by omega) (by omega) (hS.un _ (by omega)) ?_
    refine ax_const (q := 19) (v := am_I (-1)) rfl rfl rfl ?_
    refine ax_icmp_eq (q := 22) (x := 24) rfl rfl (fun h19 => ?_) (fun h19 => ?_)
    · refine ax_load (q := 25) rfl rfl rfl rfl rfl ?_
      refine ax_getf (q := 28) (v := am_R 133) rfl rfl (rfl) ?_
      refine ax_load (q := 29) rfl rfl rfl rfl rfl ?_
      refine ax_load (q := 30) rfl rfl rfl rfl rfl ?_
      refine bx_iast (q := 31) (k := p) rfl rfl (rfl) (by omega) (by omega) ?_
      refine ax_const (q := 32) (v := am_I 1) rfl rfl rfl ?_
      refine ax_ret (r := some (am_I 1)) rfl ⟨rfl, Or.inr rfl⟩ ?_
      refine hY (by rw [Int.toNat_natCast, decide_eq_true (by omega), show inr_ n (p : Int) = true from decide_eq_true (by omega)]; rfl) _ ⟨fun b hb => sI_ne (by omega), rfl⟩ ⟨hS.ct, hS.le, hS.pe, hS.so, hS.nu, hS.ar, hS.at_, fun j hj => ?_, hS.s2, hS.a1, fun j hj => ?_⟩
      · rw [sI_at]
        show am_up (σ.1 133) p t j = am_up (G 4) ((p : Int)).toNat t j
        rw [Int.toNat_natCast]
        by_cases q : j = p
        · rw [q, am_up_same, am_up_same]
        · rw [am_up_ne q, am_up_ne q]; exact hS.un j hj
      · show am_up (G 4) ((p : Int)).toNat t j = -1 ∨ 0 ≤ am_up (G 4) ((p : Int)).toNat t j
        rw [Int.toNat_natCast]
        by_cases q : j = p
        · rw [q, am_up_same]; exact Or.inr ht0
        · rw [am_up_ne q]; exact hS.u1 j hj
    · refine ax_const (q := 23) (v := am_I 0) rfl rfl rfl ?_
      refine ax_ret (r := some (am_I 0)) rfl ⟨rfl, Or.inl rfl⟩ ?_
      exact hN (by rw [Int.toNat_natCast, decide_eq_false (by omega), Bool.and_false])

theorem x_untell {d : Nat} (hd : 2 ≤ d) {σ : am_S} {G : Nat → Nat → Int} {n : Nat} (hS : XS_ G n σ) {t : Int} (ht0 : 0 ≤ t) (htm : σ.1 0 12 = t) {a : Int} {Q : Option am_V → am_S → Prop} (hN : (inr_ n a && decide (G 4 a.toNat < 0)) = false → Q (some (am_I 0)) σ) (hY : (inr_ n a && decide (G 4 a.toNat < 0)) = true → ∀ σ', hs_ σ σ' → XS_ (fun k => if k = 4 then am_up (G 4) a.toNat t else G k) n σ' → Q (some (am_I 1)) σ') : am_Ev d 131 [am_R 0, am_I a] σ Q := by
  obtain ⟨d, rfl⟩ : ∃ e, d = e + 1 := ⟨d - 1, by omega⟩
  refine ev_in (m := 131) (c := k_X8_untell) (L := [some (am_R 0), some (am_I a)]) rfl rfl rfl rfl rfl rfl ?_
  refine ax_load (q := 1) rfl rfl rfl rfl rfl ?_
  refine ax_getf (q := 4) (v := am_R 127) rfl rfl (rfl) ?_
  refine ax_load (q := 5) rfl rfl rfl rfl rfl ?_
  refine ax_load (q := 6) rfl rfl rfl rfl rfl ?_
  refine ax_getf (q := 9) (v := am_I t) rfl rfl (am_fg rfl htm) ?_
  refine ax_callv (q := 12) rfl rfl rfl rfl rfl rfl ?_
  refine x_takesBack (by omega) hS ht0 (fun hc => ?_) (fun hc σ1 hf1 hS1 => ?_)
  · refine ax_ret (r := some (am_I 0)) rfl ⟨rfl, Or.inl rfl⟩ ?_
    exact hN hc
  · refine ax_ret (r := some (am_I 1)) rfl ⟨rfl, Or.inr rfl⟩ ?_
    exact hY hc _ hf1 hS1

theorem x_later {d : Nat} (hd : 1 ≤ d) {σ : am_S} {t : Nat} (ht : σ.1 0 12 = (t : Int)) (ht9 : t ≤ 1000000) {a : Int} {Q : Option am_V → am_S → Prop} (hN : decide (0 ≤ a ∧ a ≤ 1000 ∧ (t : Int) + a ≤ 100000) = false → Q (some (am_I (-1))) σ) (hY : decide (0 ≤ a ∧ a ≤ 1000 ∧ (t : Int) + a ≤ 100000) = true → Q (some (am_I ((t : Int) + a))) (am_sI σ 0 (am_up (σ.1 0) 12 ((t : Int) + a)))) : am_Ev d 132 [am_R 0, am_I a] σ Q := by
  obtain ⟨d, rfl⟩ : ∃ e, d = e + 1 := ⟨d - 1, by omega⟩
  refine ev_in (m := 132) (c := k_X8_later) (L := [some (am_R 0), some (am_I a)]) rfl rfl rfl rfl rfl rfl ?_
  refine ax_load (q := 1) rfl rfl rfl rfl rfl ?_
  refine ax_if_lt (q := 4) (x := 23) rfl rfl (fun h1 => ?_) (fun h1 => ?_)
  · refine ax_const (q := 24) (v := am_I (-1)) rfl rfl rfl ?_
    refine ax_ret (r := some (am_I (-1))) rfl rfl ?_
    exact hN (decide_eq_false (by omega))
  · refine ax_load (q := 5) rfl rfl rfl rfl rfl ?_
    refine ax_const (q := 8) (v := am_I 1000) rfl rfl rfl ?_
    refine ax_icmp_gt (q := 11) (x := 23) rfl rfl (fun h8 => ?_) (fun h8 => ?_)
    · refine ax_const (q := 24) (v := am_I (-1)) rfl rfl rfl ?_
      refine ax_ret (r := some (am_I (-1))) rfl rfl ?_
      exact hN (decide_eq_false (by omega))
    · refine ax_load (q := 12) rfl rfl rfl rfl rfl ?_
      refine ax_getf (q := 15) (v := am_I ((t : Nat) : Int)) rfl rfl (am_fg rfl ht) ?_
      refine ax_load (q := 16) rfl rfl rfl rfl rfl ?_
      refine ax_iadd (q := 17) (z := ((t : Nat) : Int) + a) rfl rfl (am_we (by omega) (by omega) (by omega)) ?_
      refine ax_const (q := 20) (v := am_I 100000) rfl rfl rfl ?_
      refine ax_icmp_le (q := 23) (x := 25) rfl rfl (fun h20 => ?_) (fun h20 => ?_)
      · refine ax_load (q := 26) rfl rfl rfl rfl rfl ?_
        refine ax_dup (q := 27) rfl rfl rfl ?_
        refine ax_getf (q := 30) (v := am_I ((t : Nat) : Int)) rfl rfl (am_fg rfl ht) ?_
        refine ax_load (q := 31) rfl rfl rfl rfl rfl ?_
        refine ax_iadd (q := 32) (z := ((t : Nat) : Int) + a) rfl rfl (am_we (by omega) (by omega) (by omega)) ?_
        refine ax_putf (q := 35) rfl rfl rfl ?_
        refine ax_load (q := 36) rfl rfl rfl rfl rfl ?_
        refine ax_getf (q := 39) (v := am_I (((t : Nat) : Int) + a)) rfl rfl (am_fg rfl (by rw [sI_at, am_up_same])) ?_
        refine ax_ret (r := some (am_I (((t : Nat) : Int) + a))) rfl rfl ?_
        exact hY (decide_eq_true (by omega))
      · refine ax_const (q := 24) (v := am_I (-1)) rfl rfl rfl ?_
        refine ax_ret (r := some (am_I (-1))) rfl rfl ?_
        exact hN (decide_eq_false (by omega))

