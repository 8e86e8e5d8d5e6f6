/-- a byte as the class keeps it -/
def sg8_ (z : Int) : Int := if z < 128 then z else z - 256
theorem sg8_e (y : BitVec 8) : y.toInt = sg8_ (y.toNat : Int) := by
  have := y.isLt
  rw [BitVec.toInt_eq_toNat_cond]
  unfold sg8_
  split <;> split <;> omega
theorem shr_bv (x : Int32) {s : Nat} (hs : s < 31) : (x >>> (Int32.ofInt (s : Int) &&& 31)).toBitVec = x.toBitVec.sshiftRight s := by
  have e : (((Int32.ofInt (s : Int)) &&& 31).toBitVec.smod 32).toNat = s := by
    have : ∀ k : Nat, k < 31 → (((Int32.ofInt (k : Int)) &&& 31).toBitVec.smod 32).toNat = k := by decide +kernel
    exact this s hs
  rw [Int32.toBitVec_shiftRight, BitVec.sshiftRight_eq', e]
theorem ushr_bv (x : Int32) {s : Nat} (hs : s < 31) : ((x.toUInt32 >>> ((Int32.ofInt (s : Int)).toUInt32 &&& Int32.toUInt32 31)).toInt32).toBitVec = x.toBitVec >>> s := by
  have e : (((Int32.ofInt (s : Int)).toUInt32 &&& Int32.toUInt32 31).toBitVec % 32).toNat = s := by
    have : ∀ k : Nat, k < 31 → (((Int32.ofInt (k : Int)).toUInt32 &&& Int32.toUInt32 31).toBitVec % 32).toNat = k := by decide +kernel
    exact this s hs
  show (x.toUInt32 >>> ((Int32.ofInt (s : Int)).toUInt32 &&& Int32.toUInt32 31)).toBitVec = _
  rw [UInt32.toBitVec_shiftRight, BitVec.ushiftRight_eq', e]
  rfl
theorem by_bv (v : Int) {s : Nat} (hs : s ≤ 24) : by_ v s = (((((Int32.ofInt v).toBitVec >>> s).setWidth 8).toNat : Nat) : Int) := by
  unfold by_ am_and am_shr
  rw [Int32.ofInt_toInt]
  have e : (Int32.ofInt v >>> (Int32.ofInt (s : Int) &&& 31) &&& Int32.ofInt 255).toBitVec = (((Int32.ofInt v).toBitVec >>> s).setWidth 8).setWidth 32 := by
    rw [Int32.toBitVec_and, shr_bv _ (by omega)]
    have e2 : (Int32.ofInt 255).toBitVec = (BitVec.allOnes 8).setWidth 32 := by decide
    rw [e2]
    apply BitVec.eq_of_getLsbD_eq
    intro i hi
    simp only [BitVec.getLsbD_and, BitVec.getLsbD_setWidth, BitVec.getLsbD_allOnes, BitVec.getLsbD_ushiftRight, BitVec.getLsbD_sshiftRight, hi, decide_true, Bool.true_and]
    by_cases q : i < 8
    · simp [q, show s + i < 32 by omega, show ¬ 32 ≤ i by omega]
    · simp [q]
  rw [Int32.toInt, e, BitVec.toInt_eq_toNat_cond, BitVec.toNat_setWidth]
  have h8 := (((Int32.ofInt v).toBitVec >>> s).setWidth 8).isLt
  rw [Nat.mod_eq_of_lt (by omega), if_pos (by omega)]
theorem i2b_bv (v : Int) {s : Nat} (hs : s ≤ 24) : am_i2b (am_ushr v (s : Int)) = (((Int32.ofInt v).toBitVec >>> s).setWidth 8).toInt := by
  unfold am_i2b am_ushr
  rw [Int32.ofInt_toInt, Int8.toInt_toInt32]
  show ((((Int32.ofInt v).toUInt32 >>> ((Int32.ofInt (s : Int)).toUInt32 &&& Int32.toUInt32 31)).toInt32).toInt8).toBitVec.toInt = _
  rw [show ∀ y : Int32, y.toInt8.toBitVec = y.toBitVec.setWidth 8 from fun y => by rw [Int32.toBitVec_toInt8, BitVec.signExtend_eq_setWidth_of_le _ (by decide)], ushr_bv _ (by omega)]
theorem by8 (v : Int) {s : Nat} (hs : s ≤ 24) : am_w8 (am_i2b (am_ushr v (s : Int))) = sg8_ (by_ v s) ∧ 0 ≤ by_ v s ∧ by_ v s ≤ 255 := by
  have h8 := (((Int32.ofInt v).toBitVec >>> s).setWidth 8).isLt
  have e := sg8_e (((Int32.ofInt v).toBitVec >>> s).setWidth 8)
  rw [i2b_bv v hs, by_bv v hs, ← e]
  refine ⟨?_, by omega, by omega⟩
  rw [e]
  generalize (((Int32.ofInt v).toBitVec >>> s).setWidth 8).toNat = n at h8
  have : ∀ k : Nat, k < 256 → am_w8 (sg8_ (k : Int)) = sg8_ (k : Int) := by decide +kernel
  exact this n h8

/-- one number put on the class's tape at place t -/
def cq8_ (f : Nat → Int) (t : Nat) (v : Int) : Nat → Int := am_up (am_up (am_up (am_up f t (am_w8 (am_i2b (am_ushr v 24)))) (t + 1) (am_w8 (am_i2b (am_ushr v 16)))) (t + 2) (am_w8 (am_i2b (am_ushr v 8)))) (t + 3) (am_w8 (am_i2b (am_ushr v 0)))
def co_ (σ : am_S) (t : Nat) (v : Int) : am_S := am_sI (am_sI σ 1 (cq8_ (σ.1 1) t v)) 0 (am_up (σ.1 0) 1 ((t + 4 : Nat) : Int))
theorem co_t {σ : am_S} {t : Nat} {v : Int} : (co_ σ t v).1 0 1 = ((t + 4 : Nat) : Int) := by unfold co_; rw [sI_at, am_up_same]
/-- the two tapes tell the same -/
def TP_ (f g : Nat → Int) (t : Nat) : Prop := ∀ k, k < t → f k = sg8_ (g k) ∧ 0 ≤ g k ∧ g k ≤ 255
theorem TP_.four {f g : Nat → Int} {t : Nat} (h : TP_ f g t) (v : Int) : TP_ (cq8_ f t v) (pt_ g t v) (t + 4) := by
  intro k hk
  have b24 := by8 v (s := 24) (by decide)
  have b16 := by8 v (s := 16) (by decide)
  have b8 := by8 v (s := 8) (by decide)
  have b0 := by8 v (s := 0) (by decide)
  unfold cq8_ pt_
  by_cases q3 : k = t + 3
  · rw [q3, am_up_same, am_up_same]; exact b0
  · rw [am_up_ne q3, am_up_ne q3]
    by_cases q2 : k = t + 2
    · rw [q2, am_up_same, am_up_same]; exact b8
    · rw [am_up_ne q2, am_up_ne q2]
      by_cases q1 : k = t + 1
      · rw [q1, am_up_same, am_up_same]; exact b16
      · rw [am_up_ne q1, am_up_ne q1]
        by_cases q0 : k = t
        · rw [q0, am_up_same, am_up_same]; exact b24
        · rw [am_up_ne q0, am_up_ne q0]; exact h k (by omega)

theorem x_putBytes {d : Nat} (hd : 1 ≤ d) {σ : am_S} {t : Nat} (ht : σ.1 0 1 = (t : Int)) (ht9 : t + 4 ≤ 1600) {v : Int} {Q : Option am_V → am_S → Prop} (hQ : Q none (co_ σ t v)) : am_Ev d 92 [am_R 0, am_I v] σ Q := by
  obtain ⟨d, rfl⟩ : ∃ e, d = e + 1 := ⟨d - 1, by omega⟩
  refine ev_in (m := 92) (c := k_X8_putBytes) (L := [some (am_R 0), some (am_I v), none]) rfl rfl rfl rfl rfl rfl ?_
  refine ax_const (q := 2) (v := am_I 24) rfl rfl rfl ?_
  refine ax_store (q := 3) (L' := [some (am_R 0), some (am_I v), some (am_I 24)]) rfl rfl rfl rfl rfl rfl ?_
  refine ax_load (q := 4) rfl rfl rfl rfl rfl ?_
  refine ax_if_lt (q := 7) (x := 46) rfl rfl (fun h => absurd h (by omega)) (fun h4 => ?_)
  refine ax_load (q := 8) rfl rfl rfl rfl rfl ?_
  refine ax_getf (q := 11) (v := am_I ((t : Nat) : Int)) rfl rfl (am_fg rfl ht) ?_
  refine ax_const (q := 14) (v := am_I 1600) rfl rfl rfl ?_
  refine ax_icmp_ge (q := 17) (x := 46) rfl rfl (fun h => absurd h (by omega)) (fun h14 => ?_)
  refine ax_load (q := 18) rfl rfl rfl rfl rfl ?_
  refine ax_getf (q := 21) (v := am_R 1) rfl rfl (rfl) ?_
  refine ax_load (q := 22) rfl rfl rfl rfl rfl ?_
  refine ax_getf (q := 25) (v := am_I ((t : Nat) : Int)) rfl rfl (am_fg rfl ht) ?_
  refine ax_load (q := 26) rfl rfl rfl rfl rfl ?_
  refine ax_load (q := 27) rfl rfl rfl rfl rfl ?_
  refine ax_iushr (q := 28) (z := am_ushr v 24) rfl rfl (rfl) ?_
  refine ax_i2b (q := 29) rfl rfl ?_
  refine bx_bast (q := 30) (k := t) rfl rfl (rfl) (by omega) (by omega) ?_
  refine ax_load (q := 31) rfl rfl rfl rfl rfl ?_
  refine ax_dup (q := 32) rfl rfl rfl ?_
  refine ax_getf (q := 35) (v := am_I ((t : Nat) : Int)) rfl rfl (am_fg rfl ((congrFun (sI_ne (by decide)) _).trans ht)) ?_
  refine ax_const (q := 36) (v := am_I 1) rfl rfl rfl ?_
  refine ax_iadd (q := 37) (z := (((t + 1) : Nat) : Int)) rfl rfl (am_we (by omega) (by omega) (by omega)) ?_
  refine ax_putf (q := 40) rfl rfl rfl ?_
  refine ax_iinc (q := 43) (z' := ((16 : Nat) : Int)) (L' := [some (am_R 0), some (am_I v), some (am_I ((16 : Nat) : Int))]) rfl rfl rfl rfl (am_we (by omega) (by omega) (by omega)) rfl ?_
  refine ax_goto (x := 3) rfl ?_
  obtain ⟨σ1, hσ1⟩ : ∃ s, s = (am_sI (am_sI σ 1 (am_up (σ.1 1) t (am_w8 (am_i2b (am_ushr v 24))))) 0 (am_up ((am_sI σ 1 (am_up (σ.1 1) t (am_w8 (am_i2b (am_ushr v 24))))).1 0) 1 (((t + 1) : Nat) : Int))) := ⟨_, rfl⟩
  rw [← hσ1]
  have ht1 : σ1.1 0 1 = ((t + 1 : Nat) : Int) := by rw [hσ1, sI_at, am_up_same]
  refine ax_load (q := 4) rfl rfl rfl rfl rfl ?_
  refine ax_if_lt (q := 7) (x := 46) rfl rfl (fun h => absurd h (by omega)) (fun h4 => ?_)
  refine ax_load (q := 8) rfl rfl rfl rfl rfl ?_
  refine ax_getf (q := 11) (v := am_I (((t + 1) : Nat) : Int)) rfl rfl (am_fg rfl ht1) ?_
  refine ax_const (q := 14) (v := am_I 1600) rfl rfl rfl ?_
  refine ax_icmp_ge (q := 17) (x := 46) rfl rfl (fun h => absurd h (by omega)) (fun h14 => ?_)
  refine ax_load (q := 18) rfl rfl rfl rfl rfl ?_
  refine ax_getf (q := 21) (v := am_R 1) rfl rfl (rfl) ?_
  refine ax_load (q := 22) rfl rfl rfl rfl rfl ?_
  refine ax_getf (q := 25) (v := am_I (((t + 1) : Nat) : Int)) rfl rfl (am_fg rfl ht1) ?_
  refine ax_load (q := 26) rfl rfl rfl rfl rfl ?_
  refine ax_load (q := 27) rfl rfl rfl rfl rfl ?_
  refine ax_iushr (q := 28) (z := am_ushr v 16) rfl rfl (rfl) ?_
  refine ax_i2b (q := 29) rfl rfl ?_
  refine bx_bast (q := 30) (k := (t + 1)) rfl rfl (rfl) (by omega) (by omega) ?_
  refine ax_load (q := 31) rfl rfl rfl rfl rfl ?_
  refine ax_dup (q := 32) rfl rfl rfl ?_
  refine ax_getf (q := 35) (v := am_I (((t + 1) : Nat) : Int)) rfl rfl (am_fg rfl ((congrFun (sI_ne (by decide)) _).trans ht1)) ?_
  refine ax_const (q := 36) (v := am_I 1) rfl rfl rfl ?_
  refine ax_iadd (q := 37) (z := (((t + 2) : Nat) : Int)) rfl rfl (am_we (by omega) (by omega) (by omega)) ?_
  refine ax_putf (q := 40) rfl rfl rfl ?_
  refine ax_iinc (q := 43) (z' := ((8 : Nat) : Int)) (L' := [some (am_R 0), some (am_I v), some (am_I ((8 : Nat) : Int))]) rfl rfl rfl rfl (am_we (by omega) (by omega) (by omega)) rfl ?_
  refine ax_goto (x := 3) rfl ?_
  obtain ⟨σ2, hσ2⟩ : ∃ s, s = (am_sI (am_sI σ1 1 (am_up (σ1.1 1) (t + 1) (am_w8 (am_i2b (am_ushr v 16))))) 0 (am_up ((am_sI σ1 1 (am_up (σ1.1 1) (t + 1) (am_w8 (am_i2b (am_ushr v 16))))).1 0) 1 (((t + 2) : Nat) : Int))) := ⟨_, rfl⟩
  rw [← hσ2]
  have ht2 : σ2.1 0 1 = ((t + 2 : Nat) : Int) := by rw [hσ2, sI_at, am_up_same]
  refine ax_load (q := 4) rfl rfl rfl rfl rfl ?_
  refine ax_if_lt (q := 7) (x := 46) rfl rfl (fun h => absurd h (by omega)) (fun h4 => ?_)
  refine ax_load (q := 8) rfl rfl rfl rfl rfl ?_
  refine ax_getf (q := 11) (v := am_I (((t + 2) : Nat) : Int)) rfl rfl (am_fg rfl ht2) ?_
  refine ax_const (q := 14) (v := am_I 1600) rfl rfl rfl ?_
  refine ax_icmp_ge (q := 17) (x := 46) rfl rfl (fun h => absurd h (by omega)) (fun h14 => ?_)
  refine ax_load (q := 18) rfl rfl rfl rfl rfl ?_
  refine ax_getf (q := 21) (v := am_R 1) rfl rfl (rfl) ?_
  refine ax_load (q := 22) rfl rfl rfl rfl rfl ?_
  refine ax_getf (q := 25) (v := am_I (((t + 2) : Nat) : Int)) rfl rfl (am_fg rfl ht2) ?_
  refine ax_load (q := 26) rfl rfl rfl rfl rfl ?_
  refine ax_load (q := 27) rfl rfl rfl rfl rfl ?_
  refine ax_iushr (q := 28) (z := am_ushr v 8) rfl rfl (rfl) ?_
  refine ax_i2b (q := 29) rfl rfl ?_
  refine bx_bast (q := 30) (k := (t + 2)) rfl rfl (rfl) (by omega) (by omega) ?_
  refine ax_load (q := 31) rfl rfl rfl rfl rfl ?_
  refine ax_dup (q := 32) rfl rfl rfl ?_
  refine ax_getf (q := 35) (v := am_I (((t + 2) : Nat) : Int)) rfl rfl (am_fg rfl ((congrFun (sI_ne (by decide)) _).trans ht2)) ?_
  refine ax_const (q := 36) (v := am_I 1) rfl rfl rfl ?_
  refine ax_iadd (q := 37) (z := (((t + 3) : Nat) : Int)) rfl rfl (am_we (by omega) (by omega) (by omega)) ?_
  refine ax_putf (q := 40) rfl rfl rfl ?_
  refine ax_iinc (q := 43) (z' := ((0 : Nat) : Int)) (L' := [some (am_R 0), some (am_I v), some (am_I ((0 : Nat) : Int))]) rfl rfl rfl rfl (am_we (by omega) (by omega) (by omega)) rfl ?_
  refine ax_goto (x := 3) rfl ?_
  obtain ⟨σ3, hσ3⟩ : ∃ s, s = (am_sI (am_sI σ2 1 (am_up (σ2.1 1) (t + 2) (am_w8 (am_i2b (am_ushr v 8))))) 0 (am_up ((am_sI σ2 1 (am_up (σ2.1 1) (t + 2) (am_w8 (am_i2b (am_ushr v 8))))).1 0) 1 (((t + 3) : Nat) : Int))) := ⟨_, rfl⟩
  rw [← hσ3]
  have ht3 : σ3.1 0 1 = ((t + 3 : Nat) : Int) := by rw [hσ3, sI_at, am_up_same]
  refine ax_load (q := 4) rfl rfl rfl rfl rfl ?_
  refine ax_if_lt (q := 7) (x := 46) rfl rfl (fun h => absurd h (by omega)) (fun h4 => ?_)
  refine ax_load (q := 8) rfl rfl rfl rfl rfl ?_
  refine ax_getf (q := 11) (v := am_I (((t + 3) : Nat) : Int)) rfl rfl (am_fg rfl ht3) ?_
  refine ax_const (q := 14) (v := am_I 1600) rfl rfl rfl ?_
  refine ax_icmp_ge (q := 17) (x := 46) rfl rfl (fun h => absurd h (by omega)) (fun h14 => ?_)
  refine ax_load (q := 18) rfl rfl rfl rfl rfl ?_
  refine ax_getf (q := 21) (v := am_R 1) rfl rfl (rfl) ?_
  refine ax_load (q := 22) rfl rfl rfl rfl rfl ?_
  refine ax_getf (q := 25) (v := am_I (((t + 3) : Nat) : Int)) rfl rfl (am_fg rfl ht3) ?_
  refine ax_load (q := 26) rfl rfl rfl rfl rfl ?_
  refine ax_load (q := 27) rfl rfl rfl rfl rfl ?_
  refine ax_iushr (q := 28) (z := am_ushr v 0) rfl rfl (rfl) ?_
  refine ax_i2b (q := 29) rfl rfl ?_
  refine bx_bast (q := 30) (k := (t + 3)) rfl rfl (rfl) (by omega) (by omega) ?_
  refine ax_load (q := 31) rfl rfl rfl rfl rfl ?_
  refine ax_dup (q := 32) rfl rfl rfl ?_
  refine ax_getf (q := 35) (v := am_I (((t + 3) : Nat) : Int)) rfl rfl (am_fg rfl ((congrFun (sI_ne (by decide)) _).trans ht3)) ?_
  refine ax_const (q := 36) (v := am_I 1) rfl rfl rfl ?_
  refine ax_iadd (q := 37) (z := (((t + 4) : Nat) : Int)) rfl rfl (am_we (by omega) (by omega) (by omega)) ?_
  refine ax_putf (q := 40) rfl rfl rfl ?_
  refine ax_iinc (q := 43) (z' := (-8)) (L' := [some (am_R 0), some (am_I v), some (am_I (-8))]) rfl rfl rfl rfl (am_we (by omega) (by omega) (by omega)) rfl ?_
  refine ax_goto (x := 3) rfl ?_
  obtain ⟨σ4, hσ4⟩ : ∃ s, s = (am_sI (am_sI σ3 1 (am_up (σ3.1 1) (t + 3) (am_w8 (am_i2b (am_ushr v 0))))) 0 (am_up ((am_sI σ3 1 (am_up (σ3.1 1) (t + 3) (am_w8 (am_i2b (am_ushr v 0))))).1 0) 1 (((t + 4) : Nat) : Int))) := ⟨_, rfl⟩
  rw [← hσ4]
  have ht4 : σ4.1 0 1 = ((t + 4 : Nat) : Int) := by rw [hσ4, sI_at, am_up_same]
  refine ax_load (q := 4) rfl rfl rfl rfl rfl ?_
  refine ax_if_lt (q := 7) (x := 46) rfl rfl (fun h4 => ?_) (fun h => absurd h (by omega))
  refine ax_ret (r := none) rfl rfl ?_
  refine Eq.mp (congrArg (fun s => Q none s) ?_) hQ
  rw [hσ4, hσ3, hσ2, hσ1]
  unfold co_ cq8_
  simp only [am_up_same, sI_at, sI_ne (show (0 : Nat) ≠ 1 by decide), sI_ne (show (1 : Nat) ≠ 0 by decide), sI_sI, up_up]
  refine Prod.ext (funext fun b => ?_) rfl
  by_cases h1 : b = 0
  · subst h1; simp only [am_up_same, sI_at, sI_ne (show (0 : Nat) ≠ 1 by decide), sI_ne (show (1 : Nat) ≠ 0 by decide), sI_sI, up_up]
  · by_cases h2 : b = 1
    · subst h2; simp only [am_up_same, sI_at, sI_ne (show (0 : Nat) ≠ 1 by decide), sI_ne (show (1 : Nat) ≠ 0 by decide), sI_sI, up_up]
    · simp only [sI_ne h1, sI_ne h2]

def cf5_ (σ : am_S) (t : Nat) (a b c e g : Int) : am_S := co_ (co_ (co_ (co_ (co_ σ t a) (t + 4) b) (t + 8) c) (t + 12) e) (t + 16) g
theorem co_1 {σ : am_S} {t : Nat} {v : Int} : (co_ σ t v).1 1 = cq8_ (σ.1 1) t v := by unfold co_; rw [sI_ne (by decide), sI_at]
theorem co_b {σ : am_S} {t : Nat} {v : Int} {b : Nat} (h0 : b ≠ 0) (h1 : b ≠ 1) : (co_ σ t v).1 b = σ.1 b := by unfold co_; rw [sI_ne h0, sI_ne h1]
theorem co_0 {σ : am_S} {t : Nat} {v : Int} {k : Nat} (h1 : k ≠ 1) : (co_ σ t v).1 0 k = σ.1 0 k := by unfold co_; rw [sI_at, am_up_ne h1]
theorem fo_136 {σ : am_S} {t : Nat} {v : Int} : (fo_ σ t v).1 136 = pt_ (σ.1 136) t v := by unfold fo_; rw [sI_ne (by decide), sI_at]
theorem fo_b {σ : am_S} {t : Nat} {v : Int} {b : Nat} (h0 : b ≠ 135) (h1 : b ≠ 136) : (fo_ σ t v).1 b = σ.1 b := by unfold fo_; rw [sI_ne h0, sI_ne h1]
theorem fo_0 {σ : am_S} {t : Nat} {v : Int} {k : Nat} (h1 : k ≠ 1) : (fo_ σ t v).1 135 k = σ.1 135 k := by unfold fo_; rw [sI_at, am_up_ne h1]
theorem cf5_b {σ : am_S} {t : Nat} {a b c e g : Int} {k : Nat} (h0 : k ≠ 0) (h1 : k ≠ 1) : (cf5_ σ t a b c e g).1 k = σ.1 k := by unfold cf5_; rw [co_b h0 h1, co_b h0 h1, co_b h0 h1, co_b h0 h1, co_b h0 h1]
theorem cf5_0 {σ : am_S} {t : Nat} {a b c e g : Int} {k : Nat} (h1 : k ≠ 1) : (cf5_ σ t a b c e g).1 0 k = σ.1 0 k := by unfold cf5_; rw [co_0 h1, co_0 h1, co_0 h1, co_0 h1, co_0 h1]
theorem cf5_2 {σ : am_S} {t : Nat} {a b c e g : Int} : (cf5_ σ t a b c e g).2 = σ.2 := rfl
theorem cf5_t {σ : am_S} {t : Nat} {a b c e g : Int} : (cf5_ σ t a b c e g).1 0 1 = ((t + 20 : Nat) : Int) := by unfold cf5_; rw [co_t]
theorem fd_b {σ : am_S} {t : Nat} {a b c e g : Int} {k : Nat} (h0 : k ≠ 135) (h1 : k ≠ 136) : (fd_ σ t a b c e g).1 k = σ.1 k := by unfold fd_; rw [fo_b h0 h1, fo_b h0 h1, fo_b h0 h1, fo_b h0 h1, fo_b h0 h1]
theorem fd_0 {σ : am_S} {t : Nat} {a b c e g : Int} {k : Nat} (h1 : k ≠ 1) : (fd_ σ t a b c e g).1 135 k = σ.1 135 k := by unfold fd_; rw [fo_0 h1, fo_0 h1, fo_0 h1, fo_0 h1, fo_0 h1]
theorem fd_2 {σ : am_S} {t : Nat} {a b c e g : Int} : (fd_ σ t a b c e g).2 = σ.2 := rfl
theorem fd_t {σ : am_S} {t : Nat} {a b c e g : Int} : (fd_ σ t a b c e g).1 135 1 = ((t + 20 : Nat) : Int) := by unfold fd_; rw [fo_t]
/-- five numbers fed to both sides -/
theorem TP_.feed {σ τ : am_S} {t : Nat} (h : TP_ (σ.1 1) (τ.1 136) t) (a b c e g : Int) : TP_ ((cf5_ σ t a b c e g).1 1) ((fd_ τ t a b c e g).1 136) (t + 20) := by
  unfold cf5_ fd_
  rw [co_1, co_1, co_1, co_1, co_1, fo_136, fo_136, fo_136, fo_136, fo_136]
  exact ((((h.four a).four b).four c).four e).four g

theorem x_feed {d : Nat} (hd : 2 ≤ d) {σ : am_S} {t : Nat} (ht : σ.1 0 1 = (t : Int)) (ht9 : t ≤ 1600) {a b c e g : Int} {Q : Option am_V → am_S → Prop} (hN : 1580 < t → Q (some (am_I (-1))) σ) (hY : t ≤ 1580 → Q (some (am_I ((t + 20 : Nat) : Int))) (cf5_ σ t a b c e g)) : am_Ev d 91 [am_R 0, am_I a, am_I b, am_I c, am_I e, am_I g] σ Q := by
  obtain ⟨d, rfl⟩ : ∃ e, d = e + 1 := ⟨d - 1, by omega⟩
  refine ev_in (m := 91) (c := k_X8_feed) (L := [some (am_R 0), some (am_I a), some (am_I b), some (am_I c), some (am_I e), some (am_I g)]) rfl rfl rfl rfl rfl rfl ?_
  refine ax_load (q := 1) rfl rfl rfl rfl rfl ?_
  refine ax_getf (q := 4) (v := am_I ((t : Nat) : Int)) rfl rfl (am_fg rfl ht) ?_
  refine ax_const (q := 6) (v := am_I 20) rfl rfl rfl ?_
  refine ax_iadd (q := 7) (z := ((t + 20 : Nat) : Int)) rfl rfl (am_we (by omega) (by omega) (by omega)) ?_
  refine ax_const (q := 10) (v := am_I 1600) rfl rfl rfl ?_
  refine ax_icmp_le (q := 13) (x := 15) rfl rfl (fun h10 => ?_) (fun h10 => ?_)
  · refine ax_load (q := 16) rfl rfl rfl rfl rfl ?_
    refine ax_load (q := 17) rfl rfl rfl rfl rfl ?_
    refine ax_callv (q := 20) rfl rfl rfl rfl rfl rfl ?_
    refine x_putBytes (t := t) (by omega) ht (by omega) ?_
    obtain ⟨σ1, hσ1⟩ : ∃ s, s = co_ σ t a := ⟨_, rfl⟩
    rw [← hσ1]
    have ht1 : σ1.1 0 1 = ((t + 4 : Nat) : Int) := by rw [hσ1]; exact co_t
    refine ax_load (q := 21) rfl rfl rfl rfl rfl ?_
    refine ax_load (q := 22) rfl rfl rfl rfl rfl ?_
    refine ax_callv (q := 25) rfl rfl rfl rfl rfl rfl ?_
    refine x_putBytes (t := (t + 4)) (by omega) ht1 (by omega) ?_
    obtain ⟨σ2, hσ2⟩ : ∃ s, s = co_ σ1 (t + 4) b := ⟨_, rfl⟩
    rw [← hσ2]
    have ht2 : σ2.1 0 1 = ((t + 8 : Nat) : Int) := by rw [hσ2]; exact co_t
    refine ax_load (q := 26) rfl rfl rfl rfl rfl ?_
    refine ax_load (q := 27) rfl rfl rfl rfl rfl ?_
    refine ax_callv (q := 30) rfl rfl rfl rfl rfl rfl ?_
    refine x_putBytes (t := (t + 8)) (by omega) ht2 (by omega) ?_
    obtain ⟨σ3, hσ3⟩ : ∃ s, s = co_ σ2 (t + 8) c := ⟨_, rfl⟩
    rw [← hσ3]
    have ht3 : σ3.1 0 1 = ((t + 12 : Nat) : Int) := by rw [hσ3]; exact co_t
    refine ax_load (q := 31) rfl rfl rfl rfl rfl ?_
    refine ax_load (q := 33) rfl rfl rfl rfl rfl ?_
    refine ax_callv (q := 36) rfl rfl rfl rfl rfl rfl ?_
    refine x_putBytes (t := (t + 12)) (by omega) ht3 (by omega) ?_
    obtain ⟨σ4, hσ4⟩ : ∃ s, s = co_ σ3 (t + 12) e := ⟨_, rfl⟩
    rw [← hσ4]
    have ht4 : σ4.1 0 1 = ((t + 16 : Nat) : Int) := by rw [hσ4]; exact co_t
    refine ax_load (q := 37) rfl rfl rfl rfl rfl ?_
    refine ax_load (q := 39) rfl rfl rfl rfl rfl ?_
    refine ax_callv (q := 42) rfl rfl rfl rfl rfl rfl ?_
    refine x_putBytes (t := (t + 16)) (by omega) ht4 (by omega) ?_
    obtain ⟨σ5, hσ5⟩ : ∃ s, s = co_ σ4 (t + 16) g := ⟨_, rfl⟩
    rw [← hσ5]
    have ht5 : σ5.1 0 1 = ((t + 20 : Nat) : Int) := by rw [hσ5]; exact co_t
    refine ax_load (q := 43) rfl rfl rfl rfl rfl ?_
    refine ax_getf (q := 46) (v := am_I (((t + 20) : Nat) : Int)) rfl rfl (am_fg rfl ht5) ?_
    refine ax_ret (r := some (am_I (((t + 20) : Nat) : Int))) rfl rfl ?_
    rw [hσ5, hσ4, hσ3, hσ2, hσ1]
    exact hY (by omega)
  · refine ax_const (q := 14) (v := am_I (-1)) rfl rfl rfl ?_
    refine ax_ret (r := some (am_I (-1))) rfl rfl ?_
    exact hN (by omega)

theorem x_end {d : Nat} (hd : 1 ≤ d) {σ : am_S} {t : Nat} (ht : σ.1 0 1 = (t : Int)) {a : Int} {Q : Option am_V → am_S → Prop} (hN : ¬ (0 ≤ a ∧ a ≤ t) → Q (some (am_I (-1))) σ) (hY : 0 ≤ a ∧ a ≤ t → Q (some (am_I a)) (am_sI σ 0 (am_up (σ.1 0) 1 a))) : am_Ev d 93 [am_R 0, am_I a] σ Q := by
  obtain ⟨d, rfl⟩ : ∃ e, d = e + 1 := ⟨d - 1, by omega⟩
  refine ev_in (m := 93) (c := k_X8_end) (L := [some (am_R 0), some (am_I a)]) rfl rfl rfl rfl rfl rfl ?_
  refine ax_load (q := 1) rfl rfl rfl rfl rfl ?_
  refine ax_if_lt (q := 4) (x := 12) rfl rfl (fun h1 => ?_) (fun h1 => ?_)
  · refine ax_const (q := 13) (v := am_I (-1)) rfl rfl rfl ?_
    refine ax_ret (r := some (am_I (-1))) rfl rfl ?_
    exact hN (by omega)
  · refine ax_load (q := 5) rfl rfl rfl rfl rfl ?_
    refine ax_load (q := 6) rfl rfl rfl rfl rfl ?_
    refine ax_getf (q := 9) (v := am_I ((t : Nat) : Int)) rfl rfl (am_fg rfl ht) ?_
    refine ax_icmp_le (q := 12) (x := 14) rfl rfl (fun h9 => ?_) (fun h9 => ?_)
    · refine ax_load (q := 15) rfl rfl rfl rfl rfl ?_
      refine ax_load (q := 16) rfl rfl rfl rfl rfl ?_
      refine ax_putf (q := 19) rfl rfl rfl ?_
      refine ax_load (q := 20) rfl rfl rfl rfl rfl ?_
      refine ax_ret (r := some (am_I a)) rfl rfl ?_
      exact hY (by omega)
    · refine ax_const (q := 13) (v := am_I (-1)) rfl rfl rfl ?_
      refine ax_ret (r := some (am_I (-1))) rfl rfl ?_
      exact hN (by omega)

