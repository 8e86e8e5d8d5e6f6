/-- the class's boxes: which are full, what they hold -/
def XB_ (T : sp_T) (fb : Nat) (R : Nat → sp_V) (σ : am_S) : Prop := σ.1 0 8 = (fb : Int) ∧ fb < 8 ∧ ∀ b, b < 3 → fb.testBit b = true → RW_x T (R b) (σ.1 (116 + b))
theorem kd_bx {r : Nat} (h : r < 3) : am_kd (116 + r) = (0, 49) := by
  have : ∀ r, r < 3 → am_kd (116 + r) = (0, 49) := by decide
  exact this r h
theorem bx_tb : ∀ fb, fb < 8 → ∀ b, b < 3 → (fb ||| 2 ^ b) < 8 ∧ ∀ c, c < 3 → (fb ||| 2 ^ b).testBit c = (fb.testBit c || decide (c = b)) := by decide

theorem x_image {d : Nat} (hd : 1 ≤ d) {σ : am_S} {t : Nat} {T : sp_T} {v : sp_V} (hL : PL_ 68 t T v σ) (hV : TV_ T) {fb : Nat} {R : Nat → sp_V} (hB : XB_ T fb R σ) {a : Int} {Q : Option am_V → am_S → Prop} (hN : inr_ 3 a = false → Q (some (am_I (-1))) σ) (hY : ∀ b : Nat, a = (b : Int) → b < 3 → ∀ σ', (∀ c, c ≠ 0 → (c < 116 ∨ 118 < c) → σ'.1 c = σ.1 c) → (∀ k, k ≠ 8 → σ'.1 0 k = σ.1 0 k) → σ'.2 = σ.2 → XB_ T (fb ||| 2 ^ b) (am_up R b v) σ' → Q (some (am_I (v 49))) σ') : am_Ev d 136 [am_R 0, am_I a] σ Q := by
  obtain ⟨d, rfl⟩ : ∃ e, d = e + 1 := ⟨d - 1, by omega⟩
  have hn6 := hV.nP
  obtain ⟨b1, b2, b3⟩ := hB
  have ha : (a < 0 ∨ 3 ≤ a) ∨ ∃ b : Nat, a = (b : Int) ∧ b < 3 := by
    by_cases q : a < 0 ∨ 3 ≤ a
    · exact Or.inl q
    · exact Or.inr ⟨a.toNat, by omega, by omega⟩
  refine ev_in (m := 136) (c := k_X8_image) (L := [some (am_R 0), some (am_I a)]) rfl rfl rfl rfl rfl rfl ?_
  rcases ha with ha | ⟨b, rfl, hb⟩
  · refine ax_load (q := 1) rfl rfl rfl rfl rfl ?_
    refine ax_if_lt (q := 4) (x := 9) rfl rfl (fun h1 => ?_) (fun h1 => ?_)
    · refine ax_const (q := 10) (v := am_I (-1)) rfl rfl rfl ?_
      refine ax_ret (r := some (am_I (-1))) rfl rfl ?_
      exact hN (decide_eq_false (by omega))
    · refine ax_load (q := 5) rfl rfl rfl rfl rfl ?_
      refine ax_const (q := 6) (v := am_I 3) rfl rfl rfl ?_
      refine ax_icmp_lt (q := 9) (x := 11) rfl rfl (fun h => absurd h (by omega)) (fun h6 => ?_)
      refine ax_const (q := 10) (v := am_I (-1)) rfl rfl rfl ?_
      refine ax_ret (r := some (am_I (-1))) rfl rfl ?_
      exact hN (decide_eq_false (by omega))
  · refine ax_load (q := 1) rfl rfl rfl rfl rfl ?_
    refine ax_if_lt (q := 4) (x := 9) rfl rfl (fun h => absurd h (by omega)) (fun h1 => ?_)
    refine ax_load (q := 5) rfl rfl rfl rfl rfl ?_
    refine ax_const (q := 6) (v := am_I 3) rfl rfl rfl ?_
    refine ax_icmp_lt (q := 9) (x := 11) rfl rfl (fun h6 => ?_) (fun h => absurd h (by omega))
    refine ax_load (q := 12) rfl rfl rfl rfl rfl ?_
    refine ax_getf (q := 15) (v := am_R 68) rfl rfl (rfl) ?_
    refine ax_getf (q := 18) (v := am_R 69) rfl rfl (rfl) ?_
    refine ax_const (q := 19) (v := am_I 0) rfl rfl rfl ?_
    refine ax_load (q := 20) rfl rfl rfl rfl rfl ?_
    refine ax_getf (q := 23) (v := am_R 115) rfl rfl (rfl) ?_
    refine ax_load (q := 24) rfl rfl rfl rfl rfl ?_
    refine bx_aald (q := 25) (k := b) (z := 116 + b) rfl rfl (Or.inl rfl) (by omega) (by omega) (by omega) ?_
    refine ax_const (q := 26) (v := am_I 0) rfl rfl rfl ?_
    refine ax_const (q := 28) (v := am_I 49) rfl rfl rfl ?_
    refine ax_copy (q := 31) rfl rfl rfl rfl (kd_bx (by omega)) (by decide) (by decide) (by decide) (by decide) (by decide) ?_
    refine ax_load (q := 32) rfl rfl rfl rfl rfl ?_
    refine ax_dup (q := 33) rfl rfl rfl ?_
    refine ax_getf (q := 36) (v := am_I ((fb : Nat) : Int)) rfl rfl (am_fg rfl (by first | exact b1 | (rw [sI_ne (by omega)]; exact b1))) ?_
    refine ax_const (q := 37) (v := am_I 1) rfl rfl rfl ?_
    refine ax_load (q := 38) rfl rfl rfl rfl rfl ?_
    refine ax_ishl (q := 39) (z := ((2 ^ b : Nat) : Int)) rfl rfl (am_shl1 b (by omega)) ?_
    refine ax_ior (q := 40) (z := ((fb ||| 2 ^ b : Nat) : Int)) rfl rfl (am_or_nat (by omega) (Nat.pow_lt_pow_right (by decide) (by omega))) ?_
    refine ax_putf (q := 43) rfl rfl rfl ?_
    refine ax_load (q := 44) rfl rfl rfl rfl rfl ?_
    refine ax_getf (q := 47) (v := am_R 68) rfl rfl (rfl) ?_
    refine ax_getf (q := 50) (v := am_R 69) rfl rfl (rfl) ?_
    refine ax_const (q := 52) (v := am_I 48) rfl rfl rfl ?_
    refine bx_iald (q := 53) (k := 48) (z := v 49) rfl rfl (rfl) (by omega) (by omega) (by rw [sI_ne (by decide), sI_ne (by omega)]; exact hL.rw.yr) ?_
    refine ax_ret (r := some (am_I (v 49))) rfl rfl ?_
    have ht := bx_tb fb b2 b hb
    refine hY b rfl hb _ (fun c h1 h2 => ?_) (fun k hk => ?_) rfl ⟨?_, ht.1, fun c hc htc => ?_⟩
    · rw [sI_ne h1, sI_ne (by omega)]
    · rw [sI_at, am_up_ne hk, sI_ne (by omega)]
    · rw [sI_at, am_up_same]
    · rw [sI_ne (by omega)]
      by_cases q : c = b
      · subst q; rw [sI_at, am_up_same]; exact hL.rw.cpy hn6.2 _
      · rw [sI_ne (by omega), am_up_ne q]
        rw [ht.2 c hc, decide_eq_false q, Bool.or_false] at htc
        exact b3 c hc htc

theorem x_back {d : Nat} (hd : 3 ≤ d) {σ : am_S} {t : Nat} {T : sp_T} {v : sp_V} (hL : PL_ 68 t T v σ) (hV : TV_ T) {fb : Nat} {R : Nat → sp_V} (hB : XB_ T fb R σ) {a : Int} {Q : Option am_V → am_S → Prop} (hN : (inr_ 3 a && fb.testBit a.toNat) = false → Q (some (am_I (-1))) σ) (hY : ∀ b : Nat, a = (b : Int) → b < 3 → fb.testBit b = true → ∀ σ' hs, hz_ t σ σ' → PL_ 68 t T (R b) σ' → hs 0 = R b → XH_ T 0 0 hs σ' → Q (some (am_I (R b 49))) σ') : am_Ev d 137 [am_R 0, am_I a] σ Q := by
  obtain ⟨d, rfl⟩ : ∃ e, d = e + 1 := ⟨d - 1, by omega⟩
  have hn6 := hV.nP
  obtain ⟨b1, b2, b3⟩ := hB
  have ha : (a < 0 ∨ 3 ≤ a) ∨ ∃ b : Nat, a = (b : Int) ∧ b < 3 := by
    by_cases q : a < 0 ∨ 3 ≤ a
    · exact Or.inl q
    · exact Or.inr ⟨a.toNat, by omega, by omega⟩
  refine ev_in (m := 137) (c := k_X8_back) (L := [some (am_R 0), some (am_I a)]) rfl rfl rfl rfl rfl rfl ?_
  rcases ha with ha | ⟨b, rfl, hb⟩
  · refine ax_load (q := 1) rfl rfl rfl rfl rfl ?_
    refine ax_if_lt (q := 4) (x := 20) rfl rfl (fun h1 => ?_) (fun h1 => ?_)
    · refine ax_const (q := 21) (v := am_I (-1)) rfl rfl rfl ?_
      refine ax_ret (r := some (am_I (-1))) rfl rfl ?_
      exact hN (by rw [show inr_ 3 a = false from decide_eq_false (by omega)]; rfl)
    · refine ax_load (q := 5) rfl rfl rfl rfl rfl ?_
      refine ax_const (q := 6) (v := am_I 3) rfl rfl rfl ?_
      refine ax_icmp_ge (q := 9) (x := 20) rfl rfl (fun h6 => ?_) (fun h => absurd h (by omega))
      refine ax_const (q := 21) (v := am_I (-1)) rfl rfl rfl ?_
      refine ax_ret (r := some (am_I (-1))) rfl rfl ?_
      exact hN (by rw [show inr_ 3 a = false from decide_eq_false (by omega)]; rfl)
  · refine ax_load (q := 1) rfl rfl rfl rfl rfl ?_
    refine ax_if_lt (q := 4) (x := 20) rfl rfl (fun h => absurd h (by omega)) (fun h1 => ?_)
    refine ax_load (q := 5) rfl rfl rfl rfl rfl ?_
    refine ax_const (q := 6) (v := am_I 3) rfl rfl rfl ?_
    refine ax_icmp_ge (q := 9) (x := 20) rfl rfl (fun h => absurd h (by omega)) (fun h6 => ?_)
    refine ax_load (q := 10) rfl rfl rfl rfl rfl ?_
    refine ax_getf (q := 13) (v := am_I ((fb : Nat) : Int)) rfl rfl (am_fg rfl b1) ?_
    refine ax_const (q := 14) (v := am_I 1) rfl rfl rfl ?_
    refine ax_load (q := 15) rfl rfl rfl rfl rfl ?_
    refine ax_ishl (q := 16) (z := ((2 ^ b : Nat) : Int)) rfl rfl (am_shl1 b (by omega)) ?_
    refine ax_iand (q := 17) (z := ((fb &&& 2 ^ b : Nat) : Int)) rfl rfl (am_and_nat (by omega) (Nat.pow_lt_pow_right (by decide) (by omega))) ?_
    refine ax_if_ne (q := 20) (x := 22) rfl rfl (fun h17 => ?_) (fun h17 => ?_)
    · have hbt : fb.testBit b = true := by
        cases w : fb.testBit b with
        | true => rfl
        | false => exfalso; rw [land_2, w] at h17; exact h17 rfl
      refine ax_load (q := 23) rfl rfl rfl rfl rfl ?_
      refine ax_getf (q := 26) (v := am_R 115) rfl rfl (rfl) ?_
      refine ax_load (q := 27) rfl rfl rfl rfl rfl ?_
      refine bx_aald (q := 28) (k := b) (z := 116 + b) rfl rfl (Or.inl rfl) (by omega) (by omega) (by omega) ?_
      refine ax_const (q := 29) (v := am_I 0) rfl rfl rfl ?_
      refine ax_load (q := 30) rfl rfl rfl rfl rfl ?_
      refine ax_getf (q := 33) (v := am_R 68) rfl rfl (rfl) ?_
      refine ax_getf (q := 36) (v := am_R 69) rfl rfl (rfl) ?_
      refine ax_const (q := 37) (v := am_I 0) rfl rfl rfl ?_
      refine ax_const (q := 39) (v := am_I 49) rfl rfl rfl ?_
      refine ax_copy (q := 42) rfl rfl rfl (kd_bx (by omega)) rfl (by decide) (by decide) (by decide) (by decide) (by decide) ?_
      refine ax_load (q := 43) rfl rfl rfl rfl rfl ?_
      refine ax_getf (q := 46) (v := am_R 72) rfl rfl (rfl) ?_
      refine ax_load (q := 47) rfl rfl rfl rfl rfl ?_
      refine ax_getf (q := 50) (v := am_R 68) rfl rfl (rfl) ?_
      refine ax_getf (q := 53) (v := am_R 69) rfl rfl (rfl) ?_
      refine ax_callv (q := 56) rfl rfl rfl rfl rfl rfl ?_
      obtain ⟨σ1, h1⟩ : ∃ s, s = (am_sI σ 69 (va_cpy (σ.1 (116 + b)) (σ.1 69) 0 0 49)) := ⟨_, rfl⟩
      show am_Ev _ _ _ (am_sI σ 69 (va_cpy (σ.1 (116 + b)) (σ.1 69) 0 0 49)) _
      rw [← h1]
      have hr1 : RW_x T (R b) (σ1.1 69) := by rw [h1, sI_at]; exact (b3 b hb hbt).cpy hn6.2 _
      refine x_hclear (by omega) hr1 hn6.2 (fun σ2 hs hf2 hs0 hH2 => ?_)
      have hfz : hz_ t σ σ2 := ⟨fun c c1 c2 c3 c4 => by rw [hf2.1 c c2 c4, h1, sI_ne c1], by rw [hf2.2, h1]; rfl⟩
      have hr2 : RW_x T (R b) (σ2.1 69) := by rw [hf2.1 69 (by decide) (by decide)]; exact hr1
      have hL2 := hL.hz hfz hr2
      refine ax_load (q := 57) rfl rfl rfl rfl rfl ?_
      refine ax_getf (q := 60) (v := am_R 68) rfl rfl (rfl) ?_
      refine ax_getf (q := 63) (v := am_R 69) rfl rfl (rfl) ?_
      refine ax_const (q := 65) (v := am_I 48) rfl rfl rfl ?_
      refine bx_iald (q := 66) (k := 48) (z := R b 49) rfl rfl (rfl) (by omega) (by omega) (hL2.rw.yr) ?_
      refine ax_ret (r := some (am_I (R b 49))) rfl rfl ?_
      exact hY b rfl hb hbt _ _ hfz hL2 hs0 hH2
    · have hbt : fb.testBit b = false := by
        cases w : fb.testBit b with
        | false => rfl
        | true => exfalso; rw [land_2, w] at h17; have := Nat.two_pow_pos b; rw [if_pos rfl] at h17; omega
      refine ax_const (q := 21) (v := am_I (-1)) rfl rfl rfl ?_
      refine ax_ret (r := some (am_I (-1))) rfl rfl ?_
      exact hN (by rw [Int.toNat_natCast, hbt, Bool.and_false])

def FA_ (T : sp_T) (v : sp_V) (σ : am_S) (k : Int) : Int := if k = 0 then T 135 53 else if k = 1 then T 135 50 else if k = 2 then T 135 51 else if k = 3 then T 135 52 else if k = 4 then T 135 54 else if k = 5 then v 49 else if k = 6 then σ.1 68 2 else if k = 7 then T 135 55 else if k = 8 then σ.1 72 0 else if k = 9 then σ.1 72 1 else if k = 10 then σ.1 127 0 else if k = 11 then σ.1 0 12 else if k = 12 then σ.1 0 1 else if k = 13 then T 135 21 else if k = 14 then σ.1 0 14 else -1

theorem x_about {d : Nat} (hd : 1 ≤ d) {σ : am_S} {t : Nat} {T : sp_T} {v : sp_V} (hL : PL_ 68 t T v σ) (hV : TV_ T) {k : Int} {Q : Option am_V → am_S → Prop} (hQ : Q (some (am_I (FA_ T v σ k))) σ) : am_Ev d 138 [am_R 0, am_I k] σ Q := by
  obtain ⟨d, rfl⟩ : ∃ e, d = e + 1 := ⟨d - 1, by omega⟩
  refine ev_in (m := 138) (c := k_X8_about) (L := [some (am_R 0), some (am_I k)]) rfl rfl rfl rfl rfl rfl ?_
  by_cases hk : k = 0 ∨ k = 1 ∨ k = 2 ∨ k = 3 ∨ k = 4 ∨ k = 5 ∨ k = 6 ∨ k = 7 ∨ k = 8 ∨ k = 9 ∨ k = 10 ∨ k = 11 ∨ k = 12 ∨ k = 13 ∨ k = 14
  · rcases hk with rfl | rfl | rfl | rfl | rfl | rfl | rfl | rfl | rfl | rfl | rfl | rfl | rfl | rfl | rfl
    · refine ax_load (q := 1) rfl rfl rfl rfl rfl ?_
      refine ax_tsw (q := 76) rfl (by decide) ?_
      refine ax_load (q := 77) rfl rfl rfl rfl rfl ?_
      refine ax_getf (q := 80) (v := am_R 68) rfl rfl (rfl) ?_
      refine ax_getf (q := 83) (v := am_R t) rfl rfl (am_fgR rfl hL.to) ?_
      refine ax_getf (q := 86) (v := am_R (t + 1)) rfl rfl (xg7_0 hL.xt.ht) ?_
      refine ax_load (q := 87) rfl rfl rfl rfl rfl ?_
      refine bx_iald (q := 88) (k := 0) (z := T 135 53) rfl rfl (kd_1 hL.xt.ht) (by omega) (by omega) (hL.xt.c0) ?_
      refine ax_ret (r := some (am_I (T 135 53))) rfl rfl ?_
      exact hQ
    · refine ax_load (q := 1) rfl rfl rfl rfl rfl ?_
      refine ax_tsw (q := 76) rfl (by decide) ?_
      refine ax_load (q := 77) rfl rfl rfl rfl rfl ?_
      refine ax_getf (q := 80) (v := am_R 68) rfl rfl (rfl) ?_
      refine ax_getf (q := 83) (v := am_R t) rfl rfl (am_fgR rfl hL.to) ?_
      refine ax_getf (q := 86) (v := am_R (t + 1)) rfl rfl (xg7_0 hL.xt.ht) ?_
      refine ax_load (q := 87) rfl rfl rfl rfl rfl ?_
      refine bx_iald (q := 88) (k := 1) (z := T 135 50) rfl rfl (kd_1 hL.xt.ht) (by omega) (by omega) (hL.xt.c1) ?_
      refine ax_ret (r := some (am_I (T 135 50))) rfl rfl ?_
      exact hQ
    · refine ax_load (q := 1) rfl rfl rfl rfl rfl ?_
      refine ax_tsw (q := 76) rfl (by decide) ?_
      refine ax_load (q := 77) rfl rfl rfl rfl rfl ?_
      refine ax_getf (q := 80) (v := am_R 68) rfl rfl (rfl) ?_
      refine ax_getf (q := 83) (v := am_R t) rfl rfl (am_fgR rfl hL.to) ?_
      refine ax_getf (q := 86) (v := am_R (t + 1)) rfl rfl (xg7_0 hL.xt.ht) ?_
      refine ax_load (q := 87) rfl rfl rfl rfl rfl ?_
      refine bx_iald (q := 88) (k := 2) (z := T 135 51) rfl rfl (kd_1 hL.xt.ht) (by omega) (by omega) (hL.xt.c2) ?_
      refine ax_ret (r := some (am_I (T 135 51))) rfl rfl ?_
      exact hQ
    · refine ax_load (q := 1) rfl rfl rfl rfl rfl ?_
      refine ax_tsw (q := 76) rfl (by decide) ?_
      refine ax_load (q := 77) rfl rfl rfl rfl rfl ?_
      refine ax_getf (q := 80) (v := am_R 68) rfl rfl (rfl) ?_
      refine ax_getf (q := 83) (v := am_R t) rfl rfl (am_fgR rfl hL.to) ?_
      refine ax_getf (q := 86) (v := am_R (t + 1)) rfl rfl (xg7_0 hL.xt.ht) ?_
      refine ax_load (q := 87) rfl rfl rfl rfl rfl ?_
      refine bx_iald (q := 88) (k := 3) (z := T 135 52) rfl rfl (kd_1 hL.xt.ht) (by omega) (by omega) (hL.xt.c3) ?_
      refine ax_ret (r := some (am_I (T 135 52))) rfl rfl ?_
      exact hQ
    · refine ax_load (q := 1) rfl rfl rfl rfl rfl ?_
      refine ax_tsw (q := 76) rfl (by decide) ?_
      refine ax_load (q := 77) rfl rfl rfl rfl rfl ?_
      refine ax_getf (q := 80) (v := am_R 68) rfl rfl (rfl) ?_
      refine ax_getf (q := 83) (v := am_R t) rfl rfl (am_fgR rfl hL.to) ?_
      refine ax_getf (q := 86) (v := am_R (t + 1)) rfl rfl (xg7_0 hL.xt.ht) ?_
      refine ax_load (q := 87) rfl rfl rfl rfl rfl ?_
      refine bx_iald (q := 88) (k := 4) (z := T 135 54) rfl rfl (kd_1 hL.xt.ht) (by omega) (by omega) (hL.xt.c4) ?_
      refine ax_ret (r := some (am_I (T 135 54))) rfl rfl ?_
      exact hQ
    · refine ax_load (q := 1) rfl rfl rfl rfl rfl ?_
      refine ax_tsw (q := 89) rfl (by decide) ?_
      refine ax_load (q := 90) rfl rfl rfl rfl rfl ?_
      refine ax_getf (q := 93) (v := am_R 68) rfl rfl (rfl) ?_
      refine ax_getf (q := 96) (v := am_R 69) rfl rfl (rfl) ?_
      refine ax_const (q := 98) (v := am_I 48) rfl rfl rfl ?_
      refine bx_iald (q := 99) (k := 48) (z := v 49) rfl rfl (rfl) (by omega) (by omega) (hL.rw.yr) ?_
      refine ax_ret (r := some (am_I (v 49))) rfl rfl ?_
      exact hQ
    · refine ax_load (q := 1) rfl rfl rfl rfl rfl ?_
      refine ax_tsw (q := 100) rfl (by decide) ?_
      refine ax_load (q := 101) rfl rfl rfl rfl rfl ?_
      refine ax_getf (q := 104) (v := am_R 68) rfl rfl (rfl) ?_
      refine ax_getf (q := 107) (v := am_I (σ.1 68 2)) rfl rfl (rfl) ?_
      refine ax_ret (r := some (am_I (σ.1 68 2))) rfl rfl ?_
      exact hQ
    · refine ax_load (q := 1) rfl rfl rfl rfl rfl ?_
      refine ax_tsw (q := 108) rfl (by decide) ?_
      refine ax_load (q := 109) rfl rfl rfl rfl rfl ?_
      refine ax_getf (q := 112) (v := am_R 68) rfl rfl (rfl) ?_
      refine ax_getf (q := 115) (v := am_R t) rfl rfl (am_fgR rfl hL.to) ?_
      refine ax_getf (q := 118) (v := am_I (T 135 55)) rfl rfl (am_fg (xg7_10 hL.xt.ht) hL.xt.opa) ?_
      refine ax_ret (r := some (am_I (T 135 55))) rfl rfl ?_
      exact hQ
    · refine ax_load (q := 1) rfl rfl rfl rfl rfl ?_
      refine ax_tsw (q := 119) rfl (by decide) ?_
      refine ax_load (q := 120) rfl rfl rfl rfl rfl ?_
      refine ax_getf (q := 123) (v := am_R 72) rfl rfl (rfl) ?_
      refine ax_getf (q := 126) (v := am_I (σ.1 72 0)) rfl rfl (rfl) ?_
      refine ax_ret (r := some (am_I (σ.1 72 0))) rfl rfl ?_
      exact hQ
    · refine ax_load (q := 1) rfl rfl rfl rfl rfl ?_
      refine ax_tsw (q := 127) rfl (by decide) ?_
      refine ax_load (q := 128) rfl rfl rfl rfl rfl ?_
      refine ax_getf (q := 131) (v := am_R 72) rfl rfl (rfl) ?_
      refine ax_getf (q := 134) (v := am_I (σ.1 72 1)) rfl rfl (rfl) ?_
      refine ax_ret (r := some (am_I (σ.1 72 1))) rfl rfl ?_
      exact hQ
    · refine ax_load (q := 1) rfl rfl rfl rfl rfl ?_
      refine ax_tsw (q := 135) rfl (by decide) ?_
      refine ax_load (q := 136) rfl rfl rfl rfl rfl ?_
      refine ax_getf (q := 139) (v := am_R 127) rfl rfl (rfl) ?_
      refine ax_getf (q := 142) (v := am_I (σ.1 127 0)) rfl rfl (rfl) ?_
      refine ax_ret (r := some (am_I (σ.1 127 0))) rfl rfl ?_
      exact hQ
    · refine ax_load (q := 1) rfl rfl rfl rfl rfl ?_
      refine ax_tsw (q := 143) rfl (by decide) ?_
      refine ax_load (q := 144) rfl rfl rfl rfl rfl ?_
      refine ax_getf (q := 147) (v := am_I (σ.1 0 12)) rfl rfl (rfl) ?_
      refine ax_ret (r := some (am_I (σ.1 0 12))) rfl rfl ?_
      exact hQ
    · refine ax_load (q := 1) rfl rfl rfl rfl rfl ?_
      refine ax_tsw (q := 148) rfl (by decide) ?_
      refine ax_load (q := 149) rfl rfl rfl rfl rfl ?_
      refine ax_getf (q := 152) (v := am_I (σ.1 0 1)) rfl rfl (rfl) ?_
      refine ax_ret (r := some (am_I (σ.1 0 1))) rfl rfl ?_
      exact hQ
    · refine ax_load (q := 1) rfl rfl rfl rfl rfl ?_
      refine ax_tsw (q := 153) rfl (by decide) ?_
      refine ax_load (q := 154) rfl rfl rfl rfl rfl ?_
      refine ax_getf (q := 157) (v := am_R 68) rfl rfl (rfl) ?_
      refine ax_getf (q := 160) (v := am_R t) rfl rfl (am_fgR rfl hL.to) ?_
      refine ax_getf (q := 163) (v := am_R (t + 28)) rfl rfl (xg7_9 hL.xt.ht) ?_
      refine ax_getf (q := 166) (v := am_I (T 135 21)) rfl rfl (am_fg (xg0_4 hL.xt.ht) hL.xt.uni) ?_
      refine ax_ret (r := some (am_I (T 135 21))) rfl rfl ?_
      exact hQ
    · refine ax_load (q := 1) rfl rfl rfl rfl rfl ?_
      refine ax_tsw (q := 167) rfl (by decide) ?_
      refine ax_load (q := 168) rfl rfl rfl rfl rfl ?_
      refine ax_getf (q := 171) (v := am_I (σ.1 0 14)) rfl rfl (rfl) ?_
      refine ax_ret (r := some (am_I (σ.1 0 14))) rfl rfl ?_
      exact hQ
  · refine ax_load (q := 1) rfl rfl rfl rfl rfl ?_
    simp only [not_or] at hk
    refine ax_tsw (q := 172) rfl (by unfold am_tsw; rw [if_pos (by omega)]; rfl) ?_
    refine ax_const (q := 173) (v := am_I (-1)) rfl rfl rfl ?_
    refine ax_ret (r := some (am_I (-1))) rfl rfl ?_
    have e : FA_ T v σ k = -1 := by unfold FA_; simp [hk]
    rw [e] at hQ
    exact hQ

theorem x_fault {d : Nat} (hd : 2 ≤ d) {σ : am_S} {k : Int} {Q : Option am_V → am_S → Prop} (hQ : Q (some (am_I (if k = 0 then σ.1 66 0 else if k = 1 then σ.1 66 1 else -1))) σ) : am_Ev d 95 [am_R 0, am_I k] σ Q := by
  obtain ⟨d, rfl⟩ : ∃ e, d = e + 1 := ⟨d - 1, by omega⟩
  refine ev_in (m := 95) (c := k_X8_fault) (L := [some (am_R 0), some (am_I k)]) rfl rfl rfl rfl rfl rfl ?_
  refine ax_load (q := 1) rfl rfl rfl rfl rfl ?_
  refine ax_load (q := 2) rfl rfl rfl rfl rfl ?_
  refine ax_getf (q := 5) (v := am_R 66) rfl rfl (rfl) ?_
  refine ax_getf (q := 8) (v := am_I (σ.1 66 0)) rfl rfl (rfl) ?_
  refine ax_load (q := 9) rfl rfl rfl rfl rfl ?_
  refine ax_getf (q := 12) (v := am_R 66) rfl rfl (rfl) ?_
  refine ax_getf (q := 15) (v := am_I (σ.1 66 1)) rfl rfl (rfl) ?_
  refine ax_calls (q := 18) rfl rfl rfl rfl rfl ?_
  refine x_chosen (by omega) ?_
  refine ax_ret (r := some (am_I (if k = 0 then σ.1 66 0 else if k = 1 then σ.1 66 1 else -1))) rfl rfl ?_
  exact hQ

theorem x_lies {d : Nat} (hd : 1 ≤ d) {σ : am_S} {n : Nat} (hn : σ.1 0 14 = (n : Int)) (hn8 : n ≤ 8) {a : Int} {Q : Option am_V → am_S → Prop} (hQ : Q (some (am_I (if inr_ n a then σ.1 134 a.toNat else -2))) σ) : am_Ev d 129 [am_R 0, am_I a] σ Q := by
  obtain ⟨d, rfl⟩ : ∃ e, d = e + 1 := ⟨d - 1, by omega⟩
  refine ev_in (m := 129) (c := k_X8_lies) (L := [some (am_R 0), some (am_I a)]) rfl rfl rfl rfl rfl rfl ?_
  refine ax_load (q := 1) rfl rfl rfl rfl rfl ?_
  refine ax_if_lt (q := 4) (x := 21) rfl rfl (fun h1 => ?_) (fun h1 => ?_)
  · refine ax_const (q := 23) (v := am_I (-2)) rfl rfl rfl ?_
    refine ax_goto (x := 32) rfl ?_
    refine ax_ret (r := some (am_I (-2))) rfl rfl ?_
    rw [show inr_ n a = false from decide_eq_false (by omega)] at hQ
    exact hQ
  · refine ax_load (q := 5) rfl rfl rfl rfl rfl ?_
    refine ax_load (q := 6) rfl rfl rfl rfl rfl ?_
    refine ax_getf (q := 9) (v := am_I ((n : Nat) : Int)) rfl rfl (am_fg rfl hn) ?_
    refine ax_icmp_ge (q := 12) (x := 21) rfl rfl (fun h9 => ?_) (fun h9 => ?_)
    · refine ax_const (q := 23) (v := am_I (-2)) rfl rfl rfl ?_
      refine ax_goto (x := 32) rfl ?_
      refine ax_ret (r := some (am_I (-2))) rfl rfl ?_
      rw [show inr_ n a = false from decide_eq_false (by omega)] at hQ
      exact hQ
    · refine ax_load (q := 13) rfl rfl rfl rfl rfl ?_
      refine ax_load (q := 14) rfl rfl rfl rfl rfl ?_
      refine ax_getf (q := 17) (v := am_R 134) rfl rfl (rfl) ?_
      refine ax_alen (q := 18) (m := 8) rfl rfl rfl (by decide) ?_
      refine ax_icmp_lt (q := 21) (x := 26) rfl rfl (fun h18 => ?_) (fun h18 => ?_)
      · refine ax_load (q := 27) rfl rfl rfl rfl rfl ?_
        refine ax_getf (q := 30) (v := am_R 134) rfl rfl (rfl) ?_
        refine ax_load (q := 31) rfl rfl rfl rfl rfl ?_
        refine bx_iald (q := 32) (k := a.toNat) (z := σ.1 134 a.toNat) rfl rfl (rfl) (by omega) (by omega) (rfl) ?_
        refine ax_ret (r := some (am_I (σ.1 134 a.toNat))) rfl rfl ?_
        rw [show inr_ n a = true from decide_eq_true (by omega)] at hQ
        exact hQ
      · refine ax_const (q := 23) (v := am_I (-2)) rfl rfl rfl ?_
        refine ax_goto (x := 32) rfl ?_
        refine ax_ret (r := some (am_I (-2))) rfl rfl ?_
        rw [show inr_ n a = false from decide_eq_false (by omega)] at hQ
        exact hQ

