theorem kd_hr {r : Nat} (h : r < 41) : am_kd (74 + r) = (0, 49) := by
  have : ∀ r, r < 41 → am_kd (74 + r) = (0, 49) := by decide
  exact this r h
theorem RW_x.cpy {T : sp_T} {v : sp_V} {x : Nat → Int} (h : RW_x T v x) (h6 : nP_ T ≤ 6) (g : Nat → Int) : RW_x T v (va_cpy x g 0 0 49) :=
  ⟨(cpy_0 _ _ (by decide)).trans h.yr, fun p hp => (cpy_0 _ _ (by omega)).trans (h.ag p hp), fun p hp => (cpy_0 _ _ (by omega)).trans (h.hw p hp), fun p hp => (cpy_0 _ _ (by omega)).trans (h.pr p hp), fun p hp => (cpy_0 _ _ (by omega)).trans (h.hd p hp), fun p s hp hs => (cpy_0 _ _ (by omega)).trans (h.lv p s hp hs)⟩
theorem RW_x.cg {T : sp_T} {v w : sp_V} {x : Nat → Int} (h : RW_x T v x) (h6 : nP_ T ≤ 6) (e : ∀ j, j < 50 → w j = v j) : RW_x T w x :=
  ⟨h.yr.trans (e _ (by decide)).symm, fun p hp => (h.ag p hp).trans (e _ (by omega)).symm, fun p hp => (h.hw p hp).trans (e _ (by omega)).symm, fun p hp => (h.pr p hp).trans (e _ (by omega)).symm, fun p hp => (h.hd p hp).trans (e _ (by omega)).symm, fun p s hp hs => (h.lv p s hp hs).trans (e _ (by omega)).symm⟩
/-- the class's kept rows -/
def XH_ (T : sp_T) (a e : Nat) (hs : Nat → sp_V) (σ : am_S) : Prop := σ.1 72 0 = (a : Int) ∧ σ.1 72 1 = (e : Int) ∧ a + e ≤ 40 ∧ ∃ old : Nat, old < 41 ∧ σ.1 72 3 = (old : Int) ∧ ∀ i, i ≤ a + e → RW_x T (hs i) (σ.1 (74 + (old + i) % 41))
def hf_ (σ σ' : am_S) : Prop := (∀ a, a ≠ 72 → (a < 74 ∨ 114 < a) → σ'.1 a = σ.1 a) ∧ σ'.2 = σ.2
def hg_ (σ σ' : am_S) : Prop := (∀ a, a ≠ 69 → a ≠ 72 → σ'.1 a = σ.1 a) ∧ σ'.2 = σ.2

theorem x_rowNow {d : Nat} (hd : 1 ≤ d) {σ : am_S} {a old : Nat} (h0 : σ.1 72 0 = (a : Int)) (h3 : σ.1 72 3 = (old : Int)) (ha : a ≤ 40) (ho : old < 41) {Q : Option am_V → am_S → Prop} (hQ : Q (some (am_R (74 + (old + a) % 41))) σ) : am_Ev d 6 [am_R 72] σ Q := by
  obtain ⟨d, rfl⟩ : ∃ e, d = e + 1 := ⟨d - 1, by omega⟩
  refine ev_in (m := 6) (c := k_X1_rowNow) (L := [some (am_R 72)]) rfl rfl rfl rfl rfl rfl ?_
  refine ax_load (q := 1) rfl rfl rfl rfl rfl ?_
  refine ax_getf (q := 4) (v := am_R 73) rfl rfl (rfl) ?_
  refine ax_load (q := 5) rfl rfl rfl rfl rfl ?_
  refine ax_getf (q := 8) (v := am_I ((old : Nat) : Int)) rfl rfl (am_fg rfl h3) ?_
  refine ax_load (q := 9) rfl rfl rfl rfl rfl ?_
  refine ax_getf (q := 12) (v := am_I ((a : Nat) : Int)) rfl rfl (am_fg rfl h0) ?_
  refine ax_iadd (q := 13) (z := ((old + a : Nat) : Int)) rfl rfl (am_we (by omega) (by omega) (by omega)) ?_
  refine ax_const (q := 15) (v := am_I 41) rfl rfl rfl ?_
  refine ax_irem (q := 16) (z := (((old + a) % 41 : Nat) : Int)) rfl rfl (by omega) (am_rem_nat (a := old + a) (b := 41) (by omega) (by omega) (by omega)) ?_
  refine bx_aald (q := 17) (k := (old + a) % 41) (z := 73 + 1 + ((old + a) % 41)) rfl rfl (Or.inl rfl) (by omega) (by omega) (rfl) ?_
  refine ax_ret (r := some (am_R (73 + 1 + ((old + a) % 41)))) rfl rfl ?_
  exact hQ

theorem x_hclear {d : Nat} (hd : 2 ≤ d) {σ : am_S} {T : sp_T} {v : sp_V} (hr : RW_x T v (σ.1 69)) (h6 : nP_ T ≤ 6) {Q : Option am_V → am_S → Prop} (hQ : ∀ σ' hs, hf_ σ σ' → hs 0 = v → XH_ T 0 0 hs σ' → Q none σ') : am_Ev d 7 [am_R 72, am_R 69] σ Q := by
  obtain ⟨d, rfl⟩ : ∃ e, d = e + 1 := ⟨d - 1, by omega⟩
  refine ev_in (m := 7) (c := k_X1_clear) (L := [some (am_R 72), some (am_R 69)]) rfl rfl rfl rfl rfl rfl ?_
  refine ax_load (q := 1) rfl rfl rfl rfl rfl ?_
  refine ax_const (q := 2) (v := am_I 0) rfl rfl rfl ?_
  refine ax_putf (q := 5) rfl rfl rfl ?_
  refine ax_load (q := 6) rfl rfl rfl rfl rfl ?_
  refine ax_const (q := 7) (v := am_I 0) rfl rfl rfl ?_
  refine ax_putf (q := 10) rfl rfl rfl ?_
  refine ax_load (q := 11) rfl rfl rfl rfl rfl ?_
  refine ax_const (q := 12) (v := am_I 0) rfl rfl rfl ?_
  refine ax_putf (q := 15) rfl rfl rfl ?_
  refine ax_load (q := 16) rfl rfl rfl rfl rfl ?_
  refine ax_const (q := 17) (v := am_I 0) rfl rfl rfl ?_
  refine ax_load (q := 18) rfl rfl rfl rfl rfl ?_
  refine ax_callv (q := 21) rfl rfl rfl rfl rfl rfl ?_
  obtain ⟨σ1, h1⟩ : ∃ s, s = (am_sI (am_sI (am_sI σ 72 (am_up (σ.1 72) 3 0)) 72 (am_up ((am_sI σ 72 (am_up (σ.1 72) 3 0)).1 72) 0 0)) 72 (am_up ((am_sI (am_sI σ 72 (am_up (σ.1 72) 3 0)) 72 (am_up ((am_sI σ 72 (am_up (σ.1 72) 3 0)).1 72) 0 0)).1 72) 1 0)) := ⟨_, rfl⟩
  rw [← h1]
  have z0 : σ1.1 72 0 = ((0 : Nat) : Int) := by rw [h1]; simp [am_sI, am_up, *]
  have z1 : σ1.1 72 1 = ((0 : Nat) : Int) := by rw [h1]; simp [am_sI, am_up, *]
  have z3 : σ1.1 72 3 = ((0 : Nat) : Int) := by rw [h1]; simp [am_sI, am_up, *]
  have hfr : ∀ b, b ≠ 72 → σ1.1 b = σ.1 b := fun b hb => by rw [h1]; simp only [am_sI, am_up, if_neg hb]
  have h2 : σ1.2 = σ.2 := by rw [h1]; rfl
  refine x_rowNow (a := 0) (old := 0) (by omega) z0 z3 (by omega) (by omega) ?_
  refine ax_const (q := 22) (v := am_I 0) rfl rfl rfl ?_
  refine ax_const (q := 24) (v := am_I 49) rfl rfl rfl ?_
  refine ax_copy (q := 27) rfl rfl rfl rfl (kd_hr (by omega)) (by decide) (by decide) (by decide) (by decide) (by decide) ?_
  refine ax_ret (r := none) rfl rfl ?_
  refine hQ _ (fun _ => v) ⟨fun b h1 h2 => ?_, h2⟩ rfl ⟨?_, ?_, by decide, 0, by decide, ?_, fun i hi => ?_⟩
  · rw [sI_ne (by omega)]; exact hfr b h1
  · rw [sI_ne (by decide)]; exact z0
  · rw [sI_ne (by decide)]; exact z1
  · rw [sI_ne (by decide)]; exact z3
  · obtain rfl : i = 0 := by omega
    rw [sI_at, hfr 69 (by decide)]
    exact hr.cpy h6 _

theorem x_hkeep {d : Nat} (hd : 2 ≤ d) {σ : am_S} {T : sp_T} {a e : Nat} {hs : Nat → sp_V} (hH : XH_ T a e hs σ) {r : sp_V} (hr : RW_x T r (σ.1 69)) (h6 : nP_ T ≤ 6) {Q : Option am_V → am_S → Prop} (hQ : ∀ σ', hf_ σ σ' → XH_ T (ha_ a) 0 (hk_ a hs r) σ' → Q none σ') : am_Ev d 8 [am_R 72, am_R 69] σ Q := by
  obtain ⟨d, rfl⟩ : ∃ e, d = e + 1 := ⟨d - 1, by omega⟩
  obtain ⟨h0, h1e, hae, old, ho41, h3, hrw⟩ := hH
  refine ev_in (m := 8) (c := k_X1_keep) (L := [some (am_R 72), some (am_R 69)]) rfl rfl rfl rfl rfl rfl ?_
  refine ax_load (q := 1) rfl rfl rfl rfl rfl ?_
  refine ax_const (q := 2) (v := am_I 0) rfl rfl rfl ?_
  refine ax_putf (q := 5) rfl rfl rfl ?_
  refine ax_load (q := 6) rfl rfl rfl rfl rfl ?_
  refine ax_getf (q := 9) (v := am_I ((a : Nat) : Int)) rfl rfl (am_fg rfl (by first | exact h0 | simp [am_sI, am_up, h0])) ?_
  refine ax_const (q := 11) (v := am_I 40) rfl rfl rfl ?_
  refine ax_icmp_ge (q := 14) (x := 27) rfl rfl (fun h11 => ?_) (fun h11 => ?_)
  · refine ax_load (q := 28) rfl rfl rfl rfl rfl ?_
    refine ax_load (q := 29) rfl rfl rfl rfl rfl ?_
    refine ax_getf (q := 32) (v := am_I ((old : Nat) : Int)) rfl rfl (am_fg rfl (by first | exact h3 | simp [am_sI, am_up, h3])) ?_
    refine ax_const (q := 33) (v := am_I 1) rfl rfl rfl ?_
    refine ax_iadd (q := 34) (z := ((old + 1 : Nat) : Int)) rfl rfl (am_we (by omega) (by omega) (by omega)) ?_
    refine ax_const (q := 36) (v := am_I 41) rfl rfl rfl ?_
    refine ax_irem (q := 37) (z := (((old + 1) % 41 : Nat) : Int)) rfl rfl (by omega) (am_rem_nat (a := old + 1) (b := 41) (by omega) (by omega) (by omega)) ?_
    refine ax_putf (q := 40) rfl rfl rfl ?_
    refine ax_load (q := 41) rfl rfl rfl rfl rfl ?_
    refine ax_const (q := 42) (v := am_I 0) rfl rfl rfl ?_
    refine ax_load (q := 43) rfl rfl rfl rfl rfl ?_
    refine ax_callv (q := 46) rfl rfl rfl rfl rfl rfl ?_
    obtain ⟨σ1, h1⟩ : ∃ s, s = (am_sI (am_sI σ 72 (am_up (σ.1 72) 1 0)) 72 (am_up ((am_sI σ 72 (am_up (σ.1 72) 1 0)).1 72) 3 (((old + 1) % 41 : Nat) : Int))) := ⟨_, rfl⟩
    rw [← h1]
    have z0 : σ1.1 72 0 = ((40 : Nat) : Int) := by rw [h1]; simp [am_sI, am_up, h0, h3] <;> omega
    have z1 : σ1.1 72 1 = ((0 : Nat) : Int) := by rw [h1]; simp [am_sI, am_up, h0, h3]
    have z3 : σ1.1 72 3 = ((((old + 1) % 41) : Nat) : Int) := by rw [h1]; simp [am_sI, am_up, h0, h3]
    have hfr : ∀ b, b ≠ 72 → σ1.1 b = σ.1 b := fun b hb => by rw [h1]; simp only [am_sI, am_up, if_neg hb]
    have h2 : σ1.2 = σ.2 := by rw [h1]; rfl
    refine x_rowNow (a := 40) (old := ((old + 1) % 41)) (by omega) z0 z3 (by omega) (by omega) ?_
    refine ax_const (q := 47) (v := am_I 0) rfl rfl rfl ?_
    refine ax_const (q := 49) (v := am_I 49) rfl rfl rfl ?_
    refine ax_copy (q := 52) rfl rfl rfl rfl (kd_hr (by omega)) (by decide) (by decide) (by decide) (by decide) (by decide) ?_
    refine ax_ret (r := none) rfl rfl ?_
    have hha : ha_ a = 40 := if_pos (by omega)
    refine hQ _ ⟨fun b h1 h2 => ?_, h2⟩ ⟨?_, ?_, by rw [hha]; omega, ((old + 1) % 41), by omega, ?_, fun i hi => ?_⟩
    · rw [sI_ne (by omega)]; exact hfr b h1
    · rw [sI_ne (by omega), hha]; exact z0
    · rw [sI_ne (by omega)]; exact z1
    · rw [sI_ne (by omega)]; exact z3
    · rw [hha] at hi
      by_cases q : i = 40
      · have e : hk_ a hs r i = r := by unfold hk_; rw [hha, if_neg (by omega)]
        rw [e, q, sI_at, hfr 69 (by decide)]
        exact hr.cpy h6 _
      · have e : hk_ a hs r i = hs (i + 1) := by unfold hk_; rw [hha, if_pos (by omega), if_pos (by omega)]
        rw [e, sI_ne (by omega), hfr _ (by omega)]
        rw [show (((old + 1) % 41) + i) % 41 = (old + (i + 1)) % 41 by omega]
        exact hrw (i + 1) (by omega)
  · refine ax_load (q := 15) rfl rfl rfl rfl rfl ?_
    refine ax_dup (q := 16) rfl rfl rfl ?_
    refine ax_getf (q := 19) (v := am_I ((a : Nat) : Int)) rfl rfl (am_fg rfl (by first | exact h0 | simp [am_sI, am_up, h0])) ?_
    refine ax_const (q := 20) (v := am_I 1) rfl rfl rfl ?_
    refine ax_iadd (q := 21) (z := ((a + 1 : Nat) : Int)) rfl rfl (am_we (by omega) (by omega) (by omega)) ?_
    refine ax_putf (q := 24) rfl rfl rfl ?_
    refine ax_goto (x := 40) rfl ?_
    refine ax_load (q := 41) rfl rfl rfl rfl rfl ?_
    refine ax_const (q := 42) (v := am_I 0) rfl rfl rfl ?_
    refine ax_load (q := 43) rfl rfl rfl rfl rfl ?_
    refine ax_callv (q := 46) rfl rfl rfl rfl rfl rfl ?_
    obtain ⟨σ1, h1⟩ : ∃ s, s = (am_sI (am_sI σ 72 (am_up (σ.1 72) 1 0)) 72 (am_up ((am_sI σ 72 (am_up (σ.1 72) 1 0)).1 72) 0 ((a + 1 : Nat) : Int))) := ⟨_, rfl⟩
    rw [← h1]
    have z0 : σ1.1 72 0 = (((a + 1) : Nat) : Int) := by rw [h1]; simp [am_sI, am_up, h0, h3]
    have z1 : σ1.1 72 1 = ((0 : Nat) : Int) := by rw [h1]; simp [am_sI, am_up, h0, h3]
    have z3 : σ1.1 72 3 = ((old : Nat) : Int) := by rw [h1]; simp [am_sI, am_up, h0, h3]
    have hfr : ∀ b, b ≠ 72 → σ1.1 b = σ.1 b := fun b hb => by rw [h1]; simp only [am_sI, am_up, if_neg hb]
    have h2 : σ1.2 = σ.2 := by rw [h1]; rfl
    refine x_rowNow (a := (a + 1)) (old := old) (by omega) z0 z3 (by omega) (by omega) ?_
    refine ax_const (q := 47) (v := am_I 0) rfl rfl rfl ?_
    refine ax_const (q := 49) (v := am_I 49) rfl rfl rfl ?_
    refine ax_copy (q := 52) rfl rfl rfl rfl (kd_hr (by omega)) (by decide) (by decide) (by decide) (by decide) (by decide) ?_
    refine ax_ret (r := none) rfl rfl ?_
    have hha : ha_ a = (a + 1) := if_neg (by omega)
    refine hQ _ ⟨fun b h1 h2 => ?_, h2⟩ ⟨?_, ?_, by rw [hha]; omega, old, by omega, ?_, fun i hi => ?_⟩
    · rw [sI_ne (by omega)]; exact hfr b h1
    · rw [sI_ne (by omega), hha]; exact z0
    · rw [sI_ne (by omega)]; exact z1
    · rw [sI_ne (by omega)]; exact z3
    · rw [hha] at hi
      by_cases q : i = (a + 1)
      · have e : hk_ a hs r i = r := by unfold hk_; rw [hha, if_neg (by omega)]
        rw [e, q, sI_at, hfr 69 (by decide)]
        exact hr.cpy h6 _
      · have e : hk_ a hs r i = hs (i) := by unfold hk_; rw [hha, if_pos (by omega), if_neg (by omega)]
        rw [e, sI_ne (by omega), hfr _ (by omega)]
        exact hrw i (by omega)

theorem x_hback {d : Nat} (hd : 2 ≤ d) {σ : am_S} {T : sp_T} {a e : Nat} {hs : Nat → sp_V} (hH : XH_ T a e hs σ) (h6 : nP_ T ≤ 6) {Q : Option am_V → am_S → Prop} (hN : a = 0 → Q (some (am_I 0)) σ) (hY : 0 < a → ∀ σ', hg_ σ σ' → XH_ T (a - 1) (e + 1) hs σ' → RW_x T (hs (a - 1)) (σ'.1 69) → Q (some (am_I 1)) σ') : am_Ev d 9 [am_R 72, am_R 69] σ Q := by
  obtain ⟨d, rfl⟩ : ∃ e, d = e + 1 := ⟨d - 1, by omega⟩
  obtain ⟨h0, h1e, hae, old, ho41, h3, hrw⟩ := hH
  refine ev_in (m := 9) (c := k_X1_stepsBack) (L := [some (am_R 72), some (am_R 69)]) rfl rfl rfl rfl rfl rfl ?_
  refine ax_load (q := 1) rfl rfl rfl rfl rfl ?_
  refine ax_getf (q := 4) (v := am_I ((a : Nat) : Int)) rfl rfl (am_fg rfl (by first | exact h0 | simp [am_sI, am_up, h0])) ?_
  refine ax_if_gt (q := 7) (x := 9) rfl rfl (fun h4 => ?_) (fun h4 => ?_)
  · refine ax_load (q := 10) rfl rfl rfl rfl rfl ?_
    refine ax_dup (q := 11) rfl rfl rfl ?_
    refine ax_getf (q := 14) (v := am_I ((a : Nat) : Int)) rfl rfl (am_fg rfl (by first | exact h0 | simp [am_sI, am_up, h0])) ?_
    refine ax_const (q := 15) (v := am_I 1) rfl rfl rfl ?_
    refine ax_isub (q := 16) (z := ((a : Nat) : Int) - 1) rfl rfl (am_we (by omega) (by omega) (by omega)) ?_
    refine ax_putf (q := 19) rfl rfl rfl ?_
    refine ax_load (q := 20) rfl rfl rfl rfl rfl ?_
    refine ax_dup (q := 21) rfl rfl rfl ?_
    refine ax_getf (q := 24) (v := am_I ((e : Nat) : Int)) rfl rfl (am_fg rfl (by first | exact h1e | simp [am_sI, am_up, h1e])) ?_
    refine ax_const (q := 25) (v := am_I 1) rfl rfl rfl ?_
    refine ax_iadd (q := 26) (z := ((e + 1 : Nat) : Int)) rfl rfl (am_we (by omega) (by omega) (by omega)) ?_
    refine ax_putf (q := 29) rfl rfl rfl ?_
    refine ax_load (q := 30) rfl rfl rfl rfl rfl ?_
    refine ax_callv (q := 33) rfl rfl rfl rfl rfl rfl ?_
    obtain ⟨σ1, h1⟩ : ∃ s, s = (am_sI (am_sI σ 72 (am_up (σ.1 72) 0 (((a : Nat) : Int) - 1))) 72 (am_up ((am_sI σ 72 (am_up (σ.1 72) 0 (((a : Nat) : Int) - 1))).1 72) 1 ((e + 1 : Nat) : Int))) := ⟨_, rfl⟩
    rw [← h1]
    have z0 : σ1.1 72 0 = (((a - 1) : Nat) : Int) := by rw [h1]; simp [am_sI, am_up] <;> omega
    have z1 : σ1.1 72 1 = (((e + 1) : Nat) : Int) := by rw [h1]; simp [am_sI, am_up] <;> omega
    have z3 : σ1.1 72 3 = ((old : Nat) : Int) := by rw [h1]; simp [am_sI, am_up, h3]
    have hfr : ∀ b, b ≠ 72 → σ1.1 b = σ.1 b := fun b hb => by rw [h1]; simp only [am_sI, am_up, if_neg hb]
    have h2 : σ1.2 = σ.2 := by rw [h1]; rfl
    refine x_rowNow (a := (a - 1)) (old := old) (by omega) z0 z3 (by omega) (by omega) ?_
    refine ax_const (q := 34) (v := am_I 0) rfl rfl rfl ?_
    refine ax_load (q := 35) rfl rfl rfl rfl rfl ?_
    refine ax_const (q := 36) (v := am_I 0) rfl rfl rfl ?_
    refine ax_const (q := 38) (v := am_I 49) rfl rfl rfl ?_
    refine ax_copy (q := 41) rfl rfl rfl (kd_hr (by omega)) rfl (by decide) (by decide) (by decide) (by decide) (by decide) ?_
    refine ax_const (q := 42) (v := am_I 1) rfl rfl rfl ?_
    refine ax_ret (r := some (am_I 1)) rfl ⟨rfl, Or.inr rfl⟩ ?_
    refine hY (by omega) _ ⟨fun b h1 h2 => ?_, h2⟩ ⟨?_, ?_, by omega, old, ho41, ?_, fun i hi => ?_⟩ ?_
    · rw [sI_ne h1]; exact hfr b h2
    · rw [sI_ne (by decide)]; exact z0
    · rw [sI_ne (by decide)]; exact z1
    · rw [sI_ne (by decide)]; exact z3
    · rw [sI_ne (by omega), hfr _ (by omega)]; exact hrw i (by omega)
    · rw [sI_at, hfr _ (by omega)]
      exact (hrw _ (by omega)).cpy h6 _
  · refine ax_const (q := 8) (v := am_I 0) rfl rfl rfl ?_
    refine ax_ret (r := some (am_I 0)) rfl ⟨rfl, Or.inl rfl⟩ ?_
    exact hN (by omega)

theorem x_hon {d : Nat} (hd : 2 ≤ d) {σ : am_S} {T : sp_T} {a e : Nat} {hs : Nat → sp_V} (hH : XH_ T a e hs σ) (h6 : nP_ T ≤ 6) {Q : Option am_V → am_S → Prop} (hN : e = 0 → Q (some (am_I 0)) σ) (hY : 0 < e → ∀ σ', hg_ σ σ' → XH_ T (a + 1) (e - 1) hs σ' → RW_x T (hs (a + 1)) (σ'.1 69) → Q (some (am_I 1)) σ') : am_Ev d 10 [am_R 72, am_R 69] σ Q := by
  obtain ⟨d, rfl⟩ : ∃ e, d = e + 1 := ⟨d - 1, by omega⟩
  obtain ⟨h0, h1e, hae, old, ho41, h3, hrw⟩ := hH
  refine ev_in (m := 10) (c := k_X1_stepsOn) (L := [some (am_R 72), some (am_R 69)]) rfl rfl rfl rfl rfl rfl ?_
  refine ax_load (q := 1) rfl rfl rfl rfl rfl ?_
  refine ax_getf (q := 4) (v := am_I ((e : Nat) : Int)) rfl rfl (am_fg rfl (by first | exact h1e | simp [am_sI, am_up, h1e])) ?_
  refine ax_if_gt (q := 7) (x := 9) rfl rfl (fun h4 => ?_) (fun h4 => ?_)
  · refine ax_load (q := 10) rfl rfl rfl rfl rfl ?_
    refine ax_dup (q := 11) rfl rfl rfl ?_
    refine ax_getf (q := 14) (v := am_I ((a : Nat) : Int)) rfl rfl (am_fg rfl (by first | exact h0 | simp [am_sI, am_up, h0])) ?_
    refine ax_const (q := 15) (v := am_I 1) rfl rfl rfl ?_
    refine ax_iadd (q := 16) (z := ((a + 1 : Nat) : Int)) rfl rfl (am_we (by omega) (by omega) (by omega)) ?_
    refine ax_putf (q := 19) rfl rfl rfl ?_
    refine ax_load (q := 20) rfl rfl rfl rfl rfl ?_
    refine ax_dup (q := 21) rfl rfl rfl ?_
    refine ax_getf (q := 24) (v := am_I ((e : Nat) : Int)) rfl rfl (am_fg rfl (by first | exact h1e | simp [am_sI, am_up, h1e])) ?_
    refine ax_const (q := 25) (v := am_I 1) rfl rfl rfl ?_
    refine ax_isub (q := 26) (z := ((e : Nat) : Int) - 1) rfl rfl (am_we (by omega) (by omega) (by omega)) ?_
    refine ax_putf (q := 29) rfl rfl rfl ?_
    refine ax_load (q := 30) rfl rfl rfl rfl rfl ?_
    refine ax_callv (q := 33) rfl rfl rfl rfl rfl rfl ?_
    obtain ⟨σ1, h1⟩ : ∃ s, s = (am_sI (am_sI σ 72 (am_up (σ.1 72) 0 ((a + 1 : Nat) : Int))) 72 (am_up ((am_sI σ 72 (am_up (σ.1 72) 0 ((a + 1 : Nat) : Int))).1 72) 1 (((e : Nat) : Int) - 1))) := ⟨_, rfl⟩
    rw [← h1]
    have z0 : σ1.1 72 0 = (((a + 1) : Nat) : Int) := by rw [h1]; simp [am_sI, am_up] <;> omega
    have z1 : σ1.1 72 1 = (((e - 1) : Nat) : Int) := by rw [h1]; simp [am_sI, am_up] <;> omega
    have z3 : σ1.1 72 3 = ((old : Nat) : Int) := by rw [h1]; simp [am_sI, am_up, h3]
    have hfr : ∀ b, b ≠ 72 → σ1.1 b = σ.1 b := fun b hb => by rw [h1]; simp only [am_sI, am_up, if_neg hb]
    have h2 : σ1.2 = σ.2 := by rw [h1]; rfl
    refine x_rowNow (a := (a + 1)) (old := old) (by omega) z0 z3 (by omega) (by omega) ?_
    refine ax_const (q := 34) (v := am_I 0) rfl rfl rfl ?_
    refine ax_load (q := 35) rfl rfl rfl rfl rfl ?_
    refine ax_const (q := 36) (v := am_I 0) rfl rfl rfl ?_
    refine ax_const (q := 38) (v := am_I 49) rfl rfl rfl ?_
    refine ax_copy (q := 41) rfl rfl rfl (kd_hr (by omega)) rfl (by decide) (by decide) (by decide) (by decide) (by decide) ?_
    refine ax_const (q := 42) (v := am_I 1) rfl rfl rfl ?_
    refine ax_ret (r := some (am_I 1)) rfl ⟨rfl, Or.inr rfl⟩ ?_
    refine hY (by omega) _ ⟨fun b h1 h2 => ?_, h2⟩ ⟨?_, ?_, by omega, old, ho41, ?_, fun i hi => ?_⟩ ?_
    · rw [sI_ne h1]; exact hfr b h2
    · rw [sI_ne (by decide)]; exact z0
    · rw [sI_ne (by decide)]; exact z1
    · rw [sI_ne (by decide)]; exact z3
    · rw [sI_ne (by omega), hfr _ (by omega)]; exact hrw i (by omega)
    · rw [sI_at, hfr _ (by omega)]
      exact (hrw _ (by omega)).cpy h6 _
  · refine ax_const (q := 8) (v := am_I 0) rfl rfl rfl ?_
    refine ax_ret (r := some (am_I 0)) rfl ⟨rfl, Or.inl rfl⟩ ?_
    exact hN (by omega)

