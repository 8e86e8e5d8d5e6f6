/-! the tape of the reference -/
def by_ (v : Int) (k : Nat) : Int := am_and (am_shr v (k : Int)) 255
/-- one number put on the tape at place t -/
def pt_ (f : Nat → Int) (t : Nat) (v : Int) : Nat → Int := am_up (am_up (am_up (am_up f t (by_ v 24)) (t + 1) (by_ v 16)) (t + 2) (by_ v 8)) (t + 3) (by_ v 0)
def fo_ (σ : am_S) (t : Nat) (v : Int) : am_S := am_sI (am_sI σ 136 (pt_ (σ.1 136) t v)) 135 (am_up (σ.1 135) 1 ((t + 4 : Nat) : Int))
theorem fo_t {σ : am_S} {t : Nat} {v : Int} : (fo_ σ t v).1 135 1 = ((t + 4 : Nat) : Int) := by unfold fo_; rw [sI_at, am_up_same]

theorem m_four {d : Nat} (hd : 1 ≤ d) {σ : am_S} {t : Nat} (ht : σ.1 135 1 = (t : Int)) (ht9 : t + 4 ≤ 1600) {v : Int} {Q : Option am_V → am_S → Prop} (hQ : Q none (fo_ σ t v)) : am_Ev d 140 [am_R 135, am_I v] σ Q := by
  obtain ⟨d, rfl⟩ : ∃ e, d = e + 1 := ⟨d - 1, by omega⟩
  refine ev_in (m := 140) (c := k_X9_four) (L := [some (am_R 135), some (am_I v), none]) rfl rfl rfl rfl rfl rfl ?_
  refine ax_const (q := 2) (v := am_I 24) rfl rfl rfl ?_
  refine ax_store (q := 3) (L' := [some (am_R 135), some (am_I v), some (am_I 24)]) rfl rfl rfl rfl rfl rfl ?_
  refine ax_load (q := 4) rfl rfl rfl rfl rfl ?_
  refine ax_if_lt (q := 7) (x := 39) rfl rfl (fun h => absurd h (by omega)) (fun h4 => ?_)
  refine ax_load (q := 8) rfl rfl rfl rfl rfl ?_
  refine ax_getf (q := 11) (v := am_R 136) rfl rfl (rfl) ?_
  refine ax_load (q := 12) rfl rfl rfl rfl rfl ?_
  refine ax_getf (q := 15) (v := am_I ((t : Nat) : Int)) rfl rfl (am_fg rfl ht) ?_
  refine ax_load (q := 16) rfl rfl rfl rfl rfl ?_
  refine ax_load (q := 17) rfl rfl rfl rfl rfl ?_
  refine ax_ishr (q := 18) (z := am_shr v (24 : Int)) rfl rfl (rfl) ?_
  refine ax_const (q := 21) (v := am_I 255) rfl rfl rfl ?_
  refine ax_iand (q := 22) (z := by_ v 24) rfl rfl (rfl) ?_
  refine bx_iast (q := 23) (k := t) rfl rfl (rfl) (by omega) (by omega) ?_
  refine ax_load (q := 24) rfl rfl rfl rfl rfl ?_
  refine ax_dup (q := 25) rfl rfl rfl ?_
  refine ax_getf (q := 28) (v := am_I ((t : Nat) : Int)) rfl rfl (am_fg rfl ((congrFun (sI_ne (by decide)) _).trans ht)) ?_
  refine ax_const (q := 29) (v := am_I 1) rfl rfl rfl ?_
  refine ax_iadd (q := 30) (z := (((t + 1) : Nat) : Int)) rfl rfl (am_we (by omega) (by omega) (by omega)) ?_
  refine ax_putf (q := 33) rfl rfl rfl ?_
  refine ax_iinc (q := 36) (z' := ((16 : Nat) : Int)) (L' := [some (am_R 135), some (am_I v), some (am_I ((16 : Nat) : Int))]) rfl rfl rfl rfl (am_we (by omega) (by omega) (by omega)) rfl ?_
  refine ax_goto (x := 3) rfl ?_
  obtain ⟨σ1, hσ1⟩ : ∃ s, s = (am_sI (am_sI σ 136 (am_up (σ.1 136) t (by_ v 24))) 135 (am_up ((am_sI σ 136 (am_up (σ.1 136) t (by_ v 24))).1 135) 1 (((t + 1) : Nat) : Int))) := ⟨_, rfl⟩
  rw [← hσ1]
  have ht1 : σ1.1 135 1 = ((t + 1 : Nat) : Int) := by rw [hσ1, sI_at, am_up_same]
  refine ax_load (q := 4) rfl rfl rfl rfl rfl ?_
  refine ax_if_lt (q := 7) (x := 39) rfl rfl (fun h => absurd h (by omega)) (fun h4 => ?_)
  refine ax_load (q := 8) rfl rfl rfl rfl rfl ?_
  refine ax_getf (q := 11) (v := am_R 136) rfl rfl (rfl) ?_
  refine ax_load (q := 12) rfl rfl rfl rfl rfl ?_
  refine ax_getf (q := 15) (v := am_I (((t + 1) : Nat) : Int)) rfl rfl (am_fg rfl ht1) ?_
  refine ax_load (q := 16) rfl rfl rfl rfl rfl ?_
  refine ax_load (q := 17) rfl rfl rfl rfl rfl ?_
  refine ax_ishr (q := 18) (z := am_shr v (16 : Int)) rfl rfl (rfl) ?_
  refine ax_const (q := 21) (v := am_I 255) rfl rfl rfl ?_
  refine ax_iand (q := 22) (z := by_ v 16) rfl rfl (rfl) ?_
  refine bx_iast (q := 23) (k := (t + 1)) rfl rfl (rfl) (by omega) (by omega) ?_
  refine ax_load (q := 24) rfl rfl rfl rfl rfl ?_
  refine ax_dup (q := 25) rfl rfl rfl ?_
  refine ax_getf (q := 28) (v := am_I (((t + 1) : Nat) : Int)) rfl rfl (am_fg rfl ((congrFun (sI_ne (by decide)) _).trans ht1)) ?_
  refine ax_const (q := 29) (v := am_I 1) rfl rfl rfl ?_
  refine ax_iadd (q := 30) (z := (((t + 2) : Nat) : Int)) rfl rfl (am_we (by omega) (by omega) (by omega)) ?_
  refine ax_putf (q := 33) rfl rfl rfl ?_
  refine ax_iinc (q := 36) (z' := ((8 : Nat) : Int)) (L' := [some (am_R 135), some (am_I v), some (am_I ((8 : Nat) : Int))]) rfl rfl rfl rfl (am_we (by omega) (by omega) (by omega)) rfl ?_
  refine ax_goto (x := 3) rfl ?_
  obtain ⟨σ2, hσ2⟩ : ∃ s, s = (am_sI (am_sI σ1 136 (am_up (σ1.1 136) (t + 1) (by_ v 16))) 135 (am_up ((am_sI σ1 136 (am_up (σ1.1 136) (t + 1) (by_ v 16))).1 135) 1 (((t + 2) : Nat) : Int))) := ⟨_, rfl⟩
  rw [← hσ2]
  have ht2 : σ2.1 135 1 = ((t + 2 : Nat) : Int) := by rw [hσ2, sI_at, am_up_same]
  refine ax_load (q := 4) rfl rfl rfl rfl rfl ?_
  refine ax_if_lt (q := 7) (x := 39) rfl rfl (fun h => absurd h (by omega)) (fun h4 => ?_)
  refine ax_load (q := 8) rfl rfl rfl rfl rfl ?_
  refine ax_getf (q := 11) (v := am_R 136) rfl rfl (rfl) ?_
  refine ax_load (q := 12) rfl rfl rfl rfl rfl ?_
  refine ax_getf (q := 15) (v := am_I (((t + 2) : Nat) : Int)) rfl rfl (am_fg rfl ht2) ?_
  refine ax_load (q := 16) rfl rfl rfl rfl rfl ?_
  refine ax_load (q := 17) rfl rfl rfl rfl rfl ?_
  refine ax_ishr (q := 18) (z := am_shr v (8 : Int)) rfl rfl (rfl) ?_
  refine ax_const (q := 21) (v := am_I 255) rfl rfl rfl ?_
  refine ax_iand (q := 22) (z := by_ v 8) rfl rfl (rfl) ?_
  refine bx_iast (q := 23) (k := (t + 2)) rfl rfl (rfl) (by omega) (by omega) ?_
  refine ax_load (q := 24) rfl rfl rfl rfl rfl ?_
  refine ax_dup (q := 25) rfl rfl rfl ?_
  refine ax_getf (q := 28) (v := am_I (((t + 2) : Nat) : Int)) rfl rfl (am_fg rfl ((congrFun (sI_ne (by decide)) _).trans ht2)) ?_
  refine ax_const (q := 29) (v := am_I 1) rfl rfl rfl ?_
  refine ax_iadd (q := 30) (z := (((t + 3) : Nat) : Int)) rfl rfl (am_we (by omega) (by omega) (by omega)) ?_
  refine ax_putf (q := 33) rfl rfl rfl ?_
  refine ax_iinc (q := 36) (z' := ((0 : Nat) : Int)) (L' := [some (am_R 135), some (am_I v), some (am_I ((0 : Nat) : Int))]) rfl rfl rfl rfl (am_we (by omega) (by omega) (by omega)) rfl ?_
  refine ax_goto (x := 3) rfl ?_
  obtain ⟨σ3, hσ3⟩ : ∃ s, s = (am_sI (am_sI σ2 136 (am_up (σ2.1 136) (t + 2) (by_ v 8))) 135 (am_up ((am_sI σ2 136 (am_up (σ2.1 136) (t + 2) (by_ v 8))).1 135) 1 (((t + 3) : Nat) : Int))) := ⟨_, rfl⟩
  rw [← hσ3]
  have ht3 : σ3.1 135 1 = ((t + 3 : Nat) : Int) := by rw [hσ3, sI_at, am_up_same]
  refine ax_load (q := 4) rfl rfl rfl rfl rfl ?_
  refine ax_if_lt (q := 7) (x := 39) rfl rfl (fun h => absurd h (by omega)) (fun h4 => ?_)
  refine ax_load (q := 8) rfl rfl rfl rfl rfl ?_
  refine ax_getf (q := 11) (v := am_R 136) rfl rfl (rfl) ?_
  refine ax_load (q := 12) rfl rfl rfl rfl rfl ?_
  refine ax_getf (q := 15) (v := am_I (((t + 3) : Nat) : Int)) rfl rfl (am_fg rfl ht3) ?_
  refine ax_load (q := 16) rfl rfl rfl rfl rfl ?_
  refine ax_load (q := 17) rfl rfl rfl rfl rfl ?_
  refine ax_ishr (q := 18) (z := am_shr v (0 : Int)) rfl rfl (rfl) ?_
  refine ax_const (q := 21) (v := am_I 255) rfl rfl rfl ?_
  refine ax_iand (q := 22) (z := by_ v 0) rfl rfl (rfl) ?_
  refine bx_iast (q := 23) (k := (t + 3)) rfl rfl (rfl) (by omega) (by omega) ?_
  refine ax_load (q := 24) rfl rfl rfl rfl rfl ?_
  refine ax_dup (q := 25) rfl rfl rfl ?_
  refine ax_getf (q := 28) (v := am_I (((t + 3) : Nat) : Int)) rfl rfl (am_fg rfl ((congrFun (sI_ne (by decide)) _).trans ht3)) ?_
  refine ax_const (q := 29) (v := am_I 1) rfl rfl rfl ?_
  refine ax_iadd (q := 30) (z := (((t + 4) : Nat) : Int)) rfl rfl (am_we (by omega) (by omega) (by omega)) ?_
  refine ax_putf (q := 33) rfl rfl rfl ?_
  refine ax_iinc (q := 36) (z' := (-8)) (L' := [some (am_R 135), some (am_I v), some (am_I (-8))]) rfl rfl rfl rfl (am_we (by omega) (by omega) (by omega)) rfl ?_
  refine ax_goto (x := 3) rfl ?_
  obtain ⟨σ4, hσ4⟩ : ∃ s, s = (am_sI (am_sI σ3 136 (am_up (σ3.1 136) (t + 3) (by_ v 0))) 135 (am_up ((am_sI σ3 136 (am_up (σ3.1 136) (t + 3) (by_ v 0))).1 135) 1 (((t + 4) : Nat) : Int))) := ⟨_, rfl⟩
  rw [← hσ4]
  have ht4 : σ4.1 135 1 = ((t + 4 : Nat) : Int) := by rw [hσ4, sI_at, am_up_same]
  refine ax_load (q := 4) rfl rfl rfl rfl rfl ?_
  refine ax_if_lt (q := 7) (x := 39) rfl rfl (fun h4 => ?_) (fun h => absurd h (by omega))
  refine ax_ret (r := none) rfl rfl ?_
  refine Eq.mp (congrArg (fun s => Q none s) ?_) hQ
  rw [hσ4, hσ3, hσ2, hσ1]
  unfold fo_ pt_
  simp only [am_up_same, sI_at, sI_ne (show (135 : Nat) ≠ 136 by decide), sI_ne (show (136 : Nat) ≠ 135 by decide), sI_sI, up_up]
  refine Prod.ext (funext fun b => ?_) rfl
  by_cases h1 : b = 135
  · subst h1; simp only [am_up_same, sI_at, sI_ne (show (135 : Nat) ≠ 136 by decide), sI_ne (show (136 : Nat) ≠ 135 by decide), sI_sI, up_up]
  · by_cases h2 : b = 136
    · subst h2; simp only [am_up_same, sI_at, sI_ne (show (135 : Nat) ≠ 136 by decide), sI_ne (show (136 : Nat) ≠ 135 by decide), sI_sI, up_up]
    · simp only [sI_ne h1, sI_ne h2]

def fd_ (σ : am_S) (t : Nat) (a b c e g : Int) : am_S := fo_ (fo_ (fo_ (fo_ (fo_ σ t a) (t + 4) b) (t + 8) c) (t + 12) e) (t + 16) g

theorem m_feed {d : Nat} (hd : 2 ≤ d) {σ : am_S} {t : Nat} (ht : σ.1 135 1 = (t : Int)) (ht9 : t ≤ 1600) {a b c e g : Int} {Q : Option am_V → am_S → Prop} (hN : 1580 < t → Q (some (am_I (-1))) σ) (hY : t ≤ 1580 → Q (some (am_I ((t + 20 : Nat) : Int))) (fd_ σ t a b c e g)) : am_Ev d 139 [am_R 135, am_I a, am_I b, am_I c, am_I e, am_I g] σ Q := by
  obtain ⟨d, rfl⟩ : ∃ e, d = e + 1 := ⟨d - 1, by omega⟩
  refine ev_in (m := 139) (c := k_X9_feed) (L := [some (am_R 135), some (am_I a), some (am_I b), some (am_I c), some (am_I e), some (am_I g)]) rfl rfl rfl rfl rfl rfl ?_
  refine ax_load (q := 1) rfl rfl rfl rfl rfl ?_
  refine ax_getf (q := 4) (v := am_I ((t : Nat) : Int)) rfl rfl (am_fg rfl ht) ?_
  refine ax_const (q := 6) (v := am_I 20) rfl rfl rfl ?_
  refine ax_iadd (q := 7) (z := ((t + 20 : Nat) : Int)) rfl rfl (am_we (by omega) (by omega) (by omega)) ?_
  refine ax_const (q := 10) (v := am_I 1600) rfl rfl rfl ?_
  refine ax_icmp_le (q := 13) (x := 15) rfl rfl (fun h10 => ?_) (fun h10 => ?_)
  · refine ax_load (q := 16) rfl rfl rfl rfl rfl ?_
    refine ax_load (q := 17) rfl rfl rfl rfl rfl ?_
    refine ax_callv (q := 20) rfl rfl rfl rfl rfl rfl ?_
    refine m_four (t := t) (by omega) ht (by omega) ?_
    obtain ⟨σ1, hσ1⟩ : ∃ s, s = fo_ σ t a := ⟨_, rfl⟩
    rw [← hσ1]
    have ht1 : σ1.1 135 1 = ((t + 4 : Nat) : Int) := by rw [hσ1]; exact fo_t
    refine ax_load (q := 21) rfl rfl rfl rfl rfl ?_
    refine ax_load (q := 22) rfl rfl rfl rfl rfl ?_
    refine ax_callv (q := 25) rfl rfl rfl rfl rfl rfl ?_
    refine m_four (t := (t + 4)) (by omega) ht1 (by omega) ?_
    obtain ⟨σ2, hσ2⟩ : ∃ s, s = fo_ σ1 (t + 4) b := ⟨_, rfl⟩
    rw [← hσ2]
    have ht2 : σ2.1 135 1 = ((t + 8 : Nat) : Int) := by rw [hσ2]; exact fo_t
    refine ax_load (q := 26) rfl rfl rfl rfl rfl ?_
    refine ax_load (q := 27) rfl rfl rfl rfl rfl ?_
    refine ax_callv (q := 30) rfl rfl rfl rfl rfl rfl ?_
    refine m_four (t := (t + 8)) (by omega) ht2 (by omega) ?_
    obtain ⟨σ3, hσ3⟩ : ∃ s, s = fo_ σ2 (t + 8) c := ⟨_, rfl⟩
    rw [← hσ3]
    have ht3 : σ3.1 135 1 = ((t + 12 : Nat) : Int) := by rw [hσ3]; exact fo_t
    refine ax_load (q := 31) rfl rfl rfl rfl rfl ?_
    refine ax_load (q := 33) rfl rfl rfl rfl rfl ?_
    refine ax_callv (q := 36) rfl rfl rfl rfl rfl rfl ?_
    refine m_four (t := (t + 12)) (by omega) ht3 (by omega) ?_
    obtain ⟨σ4, hσ4⟩ : ∃ s, s = fo_ σ3 (t + 12) e := ⟨_, rfl⟩
    rw [← hσ4]
    have ht4 : σ4.1 135 1 = ((t + 16 : Nat) : Int) := by rw [hσ4]; exact fo_t
    refine ax_load (q := 37) rfl rfl rfl rfl rfl ?_
    refine ax_load (q := 39) rfl rfl rfl rfl rfl ?_
    refine ax_callv (q := 42) rfl rfl rfl rfl rfl rfl ?_
    refine m_four (t := (t + 16)) (by omega) ht4 (by omega) ?_
    obtain ⟨σ5, hσ5⟩ : ∃ s, s = fo_ σ4 (t + 16) g := ⟨_, rfl⟩
    rw [← hσ5]
    have ht5 : σ5.1 135 1 = ((t + 20 : Nat) : Int) := by rw [hσ5]; exact fo_t
    refine ax_load (q := 43) rfl rfl rfl rfl rfl ?_
    refine ax_getf (q := 46) (v := am_I (((t + 20) : Nat) : Int)) rfl rfl (am_fg rfl ht5) ?_
    refine ax_ret (r := some (am_I (((t + 20) : Nat) : Int))) rfl rfl ?_
    rw [hσ5, hσ4, hσ3, hσ2, hσ1]
    exact hY (by omega)
  · refine ax_const (q := 14) (v := am_I (-1)) rfl rfl rfl ?_
    refine ax_ret (r := some (am_I (-1))) rfl rfl ?_
    exact hN (by omega)

theorem m_end {d : Nat} (hd : 1 ≤ d) {σ : am_S} {t : Nat} (ht : σ.1 135 1 = (t : Int)) {a : Int} {Q : Option am_V → am_S → Prop} (hN : ¬ (0 ≤ a ∧ a ≤ t) → Q (some (am_I (-1))) σ) (hY : 0 ≤ a ∧ a ≤ t → Q (some (am_I a)) (am_sI σ 135 (am_up (σ.1 135) 1 a))) : am_Ev d 141 [am_R 135, am_I a] σ Q := by
  obtain ⟨d, rfl⟩ : ∃ e, d = e + 1 := ⟨d - 1, by omega⟩
  refine ev_in (m := 141) (c := k_X9_end) (L := [some (am_R 135), some (am_I a)]) rfl rfl rfl rfl rfl rfl ?_
  refine ax_load (q := 1) rfl rfl rfl rfl rfl ?_
  refine ax_if_lt (q := 4) (x := 12) rfl rfl (fun h1 => ?_) (fun h1 => ?_)
  · refine ax_const (q := 13) (v := am_I (-1)) rfl rfl rfl ?_
    refine ax_ret (r := some (am_I (-1))) rfl rfl ?_
    exact hN (by omega)
  · refine ax_load (q := 5) rfl rfl rfl rfl rfl ?_
    refine ax_load (q := 6) rfl rfl rfl rfl rfl ?_
    refine ax_getf (q := 9) (v := am_I ((t : Nat) : Int)) rfl rfl (am_fg rfl ht) ?_
    refine ax_icmp_le (q := 12) (x := 14) rfl rfl (fun h9 => ?_) (fun h9 => ?_)
    · refine ax_load (q := 15) rfl rfl rfl rfl rfl ?_
      refine ax_load (q := 16) rfl rfl rfl rfl rfl ?_
      refine ax_putf (q := 19) rfl rfl rfl ?_
      refine ax_load (q := 20) rfl rfl rfl rfl rfl ?_
      refine ax_ret (r := some (am_I a)) rfl rfl ?_
      exact hY (by omega)
    · refine ax_const (q := 13) (v := am_I (-1)) rfl rfl rfl ?_
      refine ax_ret (r := some (am_I (-1))) rfl rfl ?_
      exact hN (by omega)

def lt_ (c : Int) : Bool := decide (97 ≤ c ∧ c ≤ 122)
def dt_ (c : Int) : Bool := decide (48 ≤ c ∧ c ≤ 57)
def si_ (c : Int) : Bool := decide (c = 59 ∨ c = 40 ∨ c = 41 ∨ c = 60 ∨ c = 62 ∨ c = 61 ∨ c = 43 ∨ c = 45 ∨ c = 42 ∨ c = 47 ∨ c = 37)

theorem m_isLetter {d : Nat} (hd : 1 ≤ d) {σ : am_S} {c : Int} {Q : Option am_V → am_S → Prop} (hQ : Q (some (am_I (if lt_ c then 1 else 0))) σ) : am_Ev d 143 [am_I c] σ Q := by
  obtain ⟨d, rfl⟩ : ∃ e, d = e + 1 := ⟨d - 1, by omega⟩
  refine ev_in (m := 143) (c := k_X9_isLetter) (L := [some (am_I c)]) rfl rfl rfl rfl rfl rfl ?_
  refine ax_load (q := 1) rfl rfl rfl rfl rfl ?_
  refine ax_const (q := 3) (v := am_I 97) rfl rfl rfl ?_
  refine ax_icmp_lt (q := 6) (x := 16) rfl rfl (fun h3 => ?_) (fun h3 => ?_)
  · refine ax_const (q := 17) (v := am_I 0) rfl rfl rfl ?_
    refine ax_ret (r := some (am_I 0)) rfl ⟨rfl, Or.inl rfl⟩ ?_
    have e : lt_ c = false := decide_eq_false (by omega)
    rw [e] at hQ
    exact hQ
  · refine ax_load (q := 7) rfl rfl rfl rfl rfl ?_
    refine ax_const (q := 9) (v := am_I 122) rfl rfl rfl ?_
    refine ax_icmp_gt (q := 12) (x := 16) rfl rfl (fun h9 => ?_) (fun h9 => ?_)
    · refine ax_const (q := 17) (v := am_I 0) rfl rfl rfl ?_
      refine ax_ret (r := some (am_I 0)) rfl ⟨rfl, Or.inl rfl⟩ ?_
      have e : lt_ c = false := decide_eq_false (by omega)
      rw [e] at hQ
      exact hQ
    · refine ax_const (q := 13) (v := am_I 1) rfl rfl rfl ?_
      refine ax_goto (x := 17) rfl ?_
      refine ax_ret (r := some (am_I 1)) rfl ⟨rfl, Or.inr rfl⟩ ?_
      have e : lt_ c = true := decide_eq_true (by omega)
      rw [e] at hQ
      exact hQ

theorem m_isDigit {d : Nat} (hd : 1 ≤ d) {σ : am_S} {c : Int} {Q : Option am_V → am_S → Prop} (hQ : Q (some (am_I (if dt_ c then 1 else 0))) σ) : am_Ev d 144 [am_I c] σ Q := by
  obtain ⟨d, rfl⟩ : ∃ e, d = e + 1 := ⟨d - 1, by omega⟩
  refine ev_in (m := 144) (c := k_X9_isDigit) (L := [some (am_I c)]) rfl rfl rfl rfl rfl rfl ?_
  refine ax_load (q := 1) rfl rfl rfl rfl rfl ?_
  refine ax_const (q := 3) (v := am_I 48) rfl rfl rfl ?_
  refine ax_icmp_lt (q := 6) (x := 16) rfl rfl (fun h3 => ?_) (fun h3 => ?_)
  · refine ax_const (q := 17) (v := am_I 0) rfl rfl rfl ?_
    refine ax_ret (r := some (am_I 0)) rfl ⟨rfl, Or.inl rfl⟩ ?_
    have e : dt_ c = false := decide_eq_false (by omega)
    rw [e] at hQ
    exact hQ
  · refine ax_load (q := 7) rfl rfl rfl rfl rfl ?_
    refine ax_const (q := 9) (v := am_I 57) rfl rfl rfl ?_
    refine ax_icmp_gt (q := 12) (x := 16) rfl rfl (fun h9 => ?_) (fun h9 => ?_)
    · refine ax_const (q := 17) (v := am_I 0) rfl rfl rfl ?_
      refine ax_ret (r := some (am_I 0)) rfl ⟨rfl, Or.inl rfl⟩ ?_
      have e : dt_ c = false := decide_eq_false (by omega)
      rw [e] at hQ
      exact hQ
    · refine ax_const (q := 13) (v := am_I 1) rfl rfl rfl ?_
      refine ax_goto (x := 17) rfl ?_
      refine ax_ret (r := some (am_I 1)) rfl ⟨rfl, Or.inr rfl⟩ ?_
      have e : dt_ c = true := decide_eq_true (by omega)
      rw [e] at hQ
      exact hQ

theorem m_isSign {d : Nat} (hd : 1 ≤ d) {σ : am_S} {c : Int} {Q : Option am_V → am_S → Prop} (hQ : Q (some (am_I (if si_ c then 1 else 0))) σ) : am_Ev d 145 [am_I c] σ Q := by
  obtain ⟨d, rfl⟩ : ∃ e, d = e + 1 := ⟨d - 1, by omega⟩
  refine ev_in (m := 145) (c := k_X9_isSign) (L := [some (am_I c)]) rfl rfl rfl rfl rfl rfl ?_
  refine ax_load (q := 1) rfl rfl rfl rfl rfl ?_
  refine ax_const (q := 3) (v := am_I 59) rfl rfl rfl ?_
  refine ax_icmp_eq (q := 6) (x := 66) rfl rfl (fun h3 => ?_) (fun h3 => ?_)
  · refine ax_const (q := 67) (v := am_I 1) rfl rfl rfl ?_
    refine ax_goto (x := 71) rfl ?_
    refine ax_ret (r := some (am_I 1)) rfl ⟨rfl, Or.inr rfl⟩ ?_
    have e : si_ c = true := decide_eq_true (by omega)
    rw [e] at hQ
    exact hQ
  · refine ax_load (q := 7) rfl rfl rfl rfl rfl ?_
    refine ax_const (q := 9) (v := am_I 40) rfl rfl rfl ?_
    refine ax_icmp_eq (q := 12) (x := 66) rfl rfl (fun h9 => ?_) (fun h9 => ?_)
    · refine ax_const (q := 67) (v := am_I 1) rfl rfl rfl ?_
      refine ax_goto (x := 71) rfl ?_
      refine ax_ret (r := some (am_I 1)) rfl ⟨rfl, Or.inr rfl⟩ ?_
      have e : si_ c = true := decide_eq_true (by omega)
      rw [e] at hQ
      exact hQ
    · refine ax_load (q := 13) rfl rfl rfl rfl rfl ?_
      refine ax_const (q := 15) (v := am_I 41) rfl rfl rfl ?_
      refine ax_icmp_eq (q := 18) (x := 66) rfl rfl (fun h15 => ?_) (fun h15 => ?_)
      · refine ax_const (q := 67) (v := am_I 1) rfl rfl rfl ?_
        refine ax_goto (x := 71) rfl ?_
        refine ax_ret (r := some (am_I 1)) rfl ⟨rfl, Or.inr rfl⟩ ?_
        have e : si_ c = true := decide_eq_true (by omega)
        rw [e] at hQ
        exact hQ
      · refine ax_load (q := 19) rfl rfl rfl rfl rfl ?_
        refine ax_const (q := 21) (v := am_I 60) rfl rfl rfl ?_
        refine ax_icmp_eq (q := 24) (x := 66) rfl rfl (fun h21 => ?_) (fun h21 => ?_)
        · refine ax_const (q := 67) (v := am_I 1) rfl rfl rfl ?_
          refine ax_goto (x := 71) rfl ?_
          refine ax_ret (r := some (am_I 1)) rfl ⟨rfl, Or.inr rfl⟩ ?_
          have e : si_ c = true := decide_eq_true (by omega)
          rw [e] at hQ
          exact hQ
        · refine ax_load (q := 25) rfl rfl rfl rfl rfl ?_
          refine ax_const (q := 27) (v := am_I 62) rfl rfl rfl ?_
          refine ax_icmp_eq (q := 30) (x := 66) rfl rfl (fun h27 => ?_) (fun h27 => ?_)
          · refine ax_const (q := 67) (v := am_I 1) rfl rfl rfl ?_
            refine ax_goto (x := 71) rfl ?_
            refine ax_ret (r := some (am_I 1)) rfl ⟨rfl, Or.inr rfl⟩ ?_
            have e : si_ c = true := decide_eq_true (by omega)
            rw [e] at hQ
            exact hQ
          · refine ax_load (q := 31) rfl rfl rfl rfl rfl ?_
            refine ax_const (q := 33) (v := am_I 61) rfl rfl rfl ?_
            refine ax_icmp_eq (q := 36) (x := 66) rfl rfl (fun h33 => ?_) (fun h33 => ?_)
            · refine ax_const (q := 67) (v := am_I 1) rfl rfl rfl ?_
              refine ax_goto (x := 71) rfl ?_
              refine ax_ret (r := some (am_I 1)) rfl ⟨rfl, Or.inr rfl⟩ ?_
              have e : si_ c = true := decide_eq_true (by omega)
              rw [e] at hQ
              exact hQ
            · refine ax_load (q := 37) rfl rfl rfl rfl rfl ?_
              refine ax_const (q := 39) (v := am_I 43) rfl rfl rfl ?_
              refine ax_icmp_eq (q := 42) (x := 66) rfl rfl (fun h39 => ?_) (fun h39 => ?_)
              · refine ax_const (q := 67) (v := am_I 1) rfl rfl rfl ?_
                refine ax_goto (x := 71) rfl ?_
                refine ax_ret (r := some (am_I 1)) rfl ⟨rfl, Or.inr rfl⟩ ?_
                have e : si_ c = true := decide_eq_true (by omega)
                rw [e] at hQ
                exact hQ
              · refine ax_load (q := 43) rfl rfl rfl rfl rfl ?_
                refine ax_const (q := 45) (v := am_I 45) rfl rfl rfl ?_
                refine ax_icmp_eq (q := 48) (x := 66) rfl rfl (fun h45 => ?_) (fun h45 => ?_)
                · refine ax_const (q := 67) (v := am_I 1) rfl rfl rfl ?_
                  refine ax_goto (x := 71) rfl ?_
                  refine ax_ret (r := some (am_I 1)) rfl ⟨rfl, Or.inr rfl⟩ ?_
                  have e : si_ c = true := decide_eq_true (by omega)
                  rw [e] at hQ
                  exact hQ
                · refine ax_load (q := 49) rfl rfl rfl rfl rfl ?_
                  refine ax_const (q := 51) (v := am_I 42) rfl rfl rfl ?_
                  refine ax_icmp_eq (q := 54) (x := 66) rfl rfl (fun h51 => ?_) (fun h51 => ?_)
                  · refine ax_const (q := 67) (v := am_I 1) rfl rfl rfl ?_
                    refine ax_goto (x := 71) rfl ?_
                    refine ax_ret (r := some (am_I 1)) rfl ⟨rfl, Or.inr rfl⟩ ?_
                    have e : si_ c = true := decide_eq_true (by omega)
                    rw [e] at hQ
                    exact hQ
                  · refine ax_load (q := 55) rfl rfl rfl rfl rfl ?_
                    refine ax_const (q := 57) (v := am_I 47) rfl rfl rfl ?_
                    refine ax_icmp_eq (q := 60) (x := 66) rfl rfl (fun h57 => ?_) (fun h57 => ?_)
                    · refine ax_const (q := 67) (v := am_I 1) rfl rfl rfl ?_
                      refine ax_goto (x := 71) rfl ?_
                      refine ax_ret (r := some (am_I 1)) rfl ⟨rfl, Or.inr rfl⟩ ?_
                      have e : si_ c = true := decide_eq_true (by omega)
                      rw [e] at hQ
                      exact hQ
                    · refine ax_load (q := 61) rfl rfl rfl rfl rfl ?_
                      refine ax_const (q := 63) (v := am_I 37) rfl rfl rfl ?_
                      refine ax_icmp_ne (q := 66) (x := 70) rfl rfl (fun h63 => ?_) (fun h63 => ?_)
                      · refine ax_const (q := 71) (v := am_I 0) rfl rfl rfl ?_
                        refine ax_ret (r := some (am_I 0)) rfl ⟨rfl, Or.inl rfl⟩ ?_
                        have e : si_ c = false := decide_eq_false (by omega)
                        rw [e] at hQ
                        exact hQ
                      · refine ax_const (q := 67) (v := am_I 1) rfl rfl rfl ?_
                        refine ax_goto (x := 71) rfl ?_
                        refine ax_ret (r := some (am_I 1)) rfl ⟨rfl, Or.inr rfl⟩ ?_
                        have e : si_ c = true := decide_eq_true (by omega)
                        rw [e] at hQ
                        exact hQ

/-- the byte at place j, -1 behind the last -/
def hr_ (tp : Nat → Int) (n j : Nat) : Int := if j < n then tp j else -1

theorem m_here {d : Nat} (hd : 1 ≤ d) {σ : am_S} {tp : Nat → Int} (h136 : σ.1 136 = tp) {n a k : Nat} (hn : σ.1 135 5 = (n : Int)) (hat : σ.1 135 4 = (a : Int)) (hn9 : n ≤ 1600) (hak : a + k ≤ 100000) {Q : Option am_V → am_S → Prop} (hQ : Q (some (am_I (hr_ tp n (a + k)))) σ) : am_Ev d 142 [am_R 135, am_I ((k : Nat) : Int)] σ Q := by
  obtain ⟨d, rfl⟩ : ∃ e, d = e + 1 := ⟨d - 1, by omega⟩
  refine ev_in (m := 142) (c := k_X9_here) (L := [some (am_R 135), some (am_I ((k : Nat) : Int))]) rfl rfl rfl rfl rfl rfl ?_
  refine ax_load (q := 1) rfl rfl rfl rfl rfl ?_
  refine ax_getf (q := 4) (v := am_I ((a : Nat) : Int)) rfl rfl (am_fg rfl hat) ?_
  refine ax_load (q := 5) rfl rfl rfl rfl rfl ?_
  refine ax_iadd (q := 6) (z := ((a + k : Nat) : Int)) rfl rfl (am_we (by omega) (by omega) (by omega)) ?_
  refine ax_load (q := 7) rfl rfl rfl rfl rfl ?_
  refine ax_getf (q := 10) (v := am_I ((n : Nat) : Int)) rfl rfl (am_fg rfl hn) ?_
  refine ax_icmp_ge (q := 13) (x := 27) rfl rfl (fun h10 => ?_) (fun h10 => ?_)
  · refine ax_const (q := 28) (v := am_I (-1)) rfl rfl rfl ?_
    refine ax_ret (r := some (am_I (-1))) rfl rfl ?_
    have e : hr_ tp n (a + k) = (-1) := by unfold hr_; first | exact if_pos (by omega) | exact if_neg (by omega)
    rw [← e]
    exact hQ
  · refine ax_load (q := 14) rfl rfl rfl rfl rfl ?_
    refine ax_getf (q := 17) (v := am_R 136) rfl rfl (rfl) ?_
    refine ax_load (q := 18) rfl rfl rfl rfl rfl ?_
    refine ax_getf (q := 21) (v := am_I ((a : Nat) : Int)) rfl rfl (am_fg rfl hat) ?_
    refine ax_load (q := 22) rfl rfl rfl rfl rfl ?_
    refine ax_iadd (q := 23) (z := ((a + k : Nat) : Int)) rfl rfl (am_we (by omega) (by omega) (by omega)) ?_
    refine bx_iald (q := 24) (k := a + k) (z := tp (a + k)) rfl rfl (rfl) (by omega) (by omega) (congrFun h136 _) ?_
    refine ax_goto (x := 28) rfl ?_
    refine ax_ret (r := some (am_I (tp (a + k)))) rfl rfl ?_
    have e : hr_ tp n (a + k) = tp (a + k) := by unfold hr_; first | exact if_pos (by omega) | exact if_neg (by omega)
    rw [← e]
    exact hQ

theorem l_drawOf {d : Nat} {σ : am_S} {T : sp_T} (hT : TM_ T σ) (hV : TV_ T) {q : Nat} (hq : q < nR_ T) {x2 : Int} {Q : Option am_V → am_S → Prop} : ∀ (m o : Nat) (l : Int), o + m = nO_ T → 0 ≤ l → l < su_ (nO_ T) (fun o => T 158 (8 * q + o)) - su_ o (fun o => T 158 (8 * q + o)) → (hQ : Q (some (am_I (dq_ T q m o l))) σ) → aW d 0 k_X9_drawOf Q 22 [some (am_R 135), some (am_I ((q : Nat) : Int)), some (am_I x2), some (am_I l), some (am_I ((o : Nat) : Int))] [] σ := by
  have hO := hV.nO
  have hR := hV.nR
  intro m
  induction m with
  | zero =>
    intro o l ho h0 hl hQ
    obtain rfl : o = nO_ T := by omega
    omega
  | succ m ih =>
    intro o l ho h0 hl hQ
    have hb := hV.od hq (o := o) (by omega)
    have hsu := su_bd (f := fun o => T 158 (8 * q + o)) (b := 9) (by omega) (nO_ T) (fun k hk => hV.od hq hk)
    have hsu2 := su_bd (f := fun o => T 158 (8 * q + o)) (b := 9) (by omega) o (fun k hk => hV.od hq (by omega))
    refine ax_load (q := 23) rfl rfl rfl rfl rfl ?_
    refine ax_load (q := 24) rfl rfl rfl rfl rfl ?_
    refine ax_getf (q := 27) (v := am_R 158) rfl rfl (rfl) ?_
    refine ax_const (q := 29) (v := am_I 8) rfl rfl rfl ?_
    refine ax_load (q := 30) rfl rfl rfl rfl rfl ?_
    refine ax_imul (q := 31) (z := ((8 * q : Nat) : Int)) rfl rfl (am_we (by omega) (by omega) (by omega)) ?_
    refine ax_load (q := 33) rfl rfl rfl rfl rfl ?_
    refine ax_iadd (q := 34) (z := (((8 * q) + o : Nat) : Int)) rfl rfl (am_we (by omega) (by omega) (by omega)) ?_
    refine bx_iald (q := 35) (k := (8 * q) + o) (z := T 158 ((8 * q) + o)) rfl rfl (rfl) (by omega) (by omega) (congrFun hT.a158 _) ?_
    refine ax_icmp_lt (q := 38) (x := 59) rfl rfl (fun h35 => ?_) (fun h35 => ?_)
    · refine ax_load (q := 61) rfl rfl rfl rfl rfl ?_
      refine ax_ret (r := some (am_I ((o : Nat) : Int))) rfl rfl ?_
      rw [show dq_ T q (m + 1) o l = (o : Int) from if_pos (by omega)] at hQ
      exact hQ
    · refine ax_load (q := 39) rfl rfl rfl rfl rfl ?_
      refine ax_load (q := 40) rfl rfl rfl rfl rfl ?_
      refine ax_getf (q := 43) (v := am_R 158) rfl rfl (rfl) ?_
      refine ax_const (q := 45) (v := am_I 8) rfl rfl rfl ?_
      refine ax_load (q := 46) rfl rfl rfl rfl rfl ?_
      refine ax_imul (q := 47) (z := ((8 * q : Nat) : Int)) rfl rfl (am_we (by omega) (by omega) (by omega)) ?_
      refine ax_load (q := 49) rfl rfl rfl rfl rfl ?_
      refine ax_iadd (q := 50) (z := (((8 * q) + o : Nat) : Int)) rfl rfl (am_we (by omega) (by omega) (by omega)) ?_
      refine bx_iald (q := 51) (k := (8 * q) + o) (z := T 158 ((8 * q) + o)) rfl rfl (rfl) (by omega) (by omega) (congrFun hT.a158 _) ?_
      refine ax_isub (q := 52) (z := l - (T 158 ((8 * q) + o))) rfl rfl (am_we (by omega) (by omega) (by omega)) ?_
      refine ax_store (q := 53) (L' := [some (am_R 135), some (am_I ((q : Nat) : Int)), some (am_I x2), some (am_I (l - (T 158 ((8 * q) + o)))), some (am_I ((o : Nat) : Int))]) rfl rfl rfl rfl rfl rfl ?_
      refine ax_iinc (q := 56) (z' := ((o + 1 : Nat) : Int)) (L' := [some (am_R 135), some (am_I ((q : Nat) : Int)), some (am_I x2), some (am_I (l - (T 158 ((8 * q) + o)))), some (am_I ((o + 1 : Nat) : Int))]) rfl rfl rfl rfl (am_we (by omega) (by omega) (by omega)) rfl ?_
      refine ax_goto (x := 22) rfl ?_
      rw [show dq_ T q (m + 1) o l = dq_ T q m (o + 1) (l - T 158 (8 * q + o)) from if_neg (by omega)] at hQ
      exact ih (o + 1) (l - T 158 (8 * q + o)) (by omega) (by omega) (by show _ < _ - (su_ o (fun o => T 158 (8 * q + o)) + T 158 (8 * q + o)); omega) hQ

theorem m_drawOf {d : Nat} (hd : 2 ≤ d) {σ : am_S} {T : sp_T} (hT : TM_ T σ) (hV : TV_ T) {q : Nat} (hq : q < nR_ T) {s : Nat} (hs : σ.1 135 56 = (s : Int)) (hs9 : s < 1000) {Q : Option am_V → am_S → Prop} (hQ : Q (some (am_I (dr_ T q (s : Int)))) σ) : am_Ev d 185 [am_R 135, am_I ((q : Nat) : Int)] σ Q := by
  obtain ⟨d, rfl⟩ : ∃ e, d = e + 1 := ⟨d - 1, by omega⟩
  have hO := hV.nO
  have hab := al_bd hV hq
  obtain ⟨A, hA⟩ : ∃ A : Nat, al_ T q = (A : Int) := ⟨(al_ T q).toNat, by omega⟩
  refine ev_in (m := 185) (c := k_X9_drawOf) (L := [some (am_R 135), some (am_I ((q : Nat) : Int)), none, none, none]) rfl rfl rfl rfl rfl rfl ?_
  refine ax_load (q := 1) rfl rfl rfl rfl rfl ?_
  refine ax_load (q := 2) rfl rfl rfl rfl rfl ?_
  refine ax_callv (q := 5) rfl rfl rfl rfl rfl rfl ?_
  refine m_allOdds (by omega) hT hV hq ?_
  rw [hA]
  refine ax_store (q := 6) (L' := [some (am_R 135), some (am_I ((q : Nat) : Int)), some (am_I ((A : Nat) : Int)), none, none]) rfl rfl rfl rfl rfl rfl ?_
  refine ax_load (q := 7) rfl rfl rfl rfl rfl ?_
  refine ax_if_ne (q := 10) (x := 12) rfl rfl (fun h7 => ?_) (fun h7 => ?_)
  · refine ax_load (q := 13) rfl rfl rfl rfl rfl ?_
    refine ax_getf (q := 16) (v := am_I ((s : Nat) : Int)) rfl rfl (am_fg rfl hs) ?_
    refine ax_load (q := 17) rfl rfl rfl rfl rfl ?_
    refine ax_irem (q := 18) (z := (((s % A) : Nat) : Int)) rfl rfl (by omega) (am_rem_nat (by omega) (by omega) (by omega)) ?_
    refine ax_store (q := 19) (L' := [some (am_R 135), some (am_I ((q : Nat) : Int)), some (am_I ((A : Nat) : Int)), some (am_I (((s % A) : Nat) : Int)), none]) rfl rfl rfl rfl rfl rfl ?_
    refine ax_const (q := 20) (v := am_I 0) rfl rfl rfl ?_
    refine ax_store (q := 22) (L' := [some (am_R 135), some (am_I ((q : Nat) : Int)), some (am_I ((A : Nat) : Int)), some (am_I (((s % A) : Nat) : Int)), some (am_I 0)]) rfl rfl rfl rfl rfl rfl ?_
    have hml := Nat.mod_lt s (show 0 < A by omega)
    rw [show dr_ T q (s : Int) = dq_ T q (nO_ T) 0 (((s % A : Nat) : Int)) by unfold dr_; rw [if_neg (by omega), hA, am_rem_nat (by omega) (by omega) (by omega)]] at hQ
    refine l_drawOf hT hV hq (nO_ T) 0 _ (by omega) (by omega) (by show _ < _ - (0 : Int); unfold al_ at hA; omega) hQ
  · refine ax_const (q := 11) (v := am_I (-1)) rfl rfl rfl ?_
    refine ax_ret (r := some (am_I (-1))) rfl rfl ?_
    rw [show dr_ T q (s : Int) = -1 from if_pos (by omega)] at hQ
    exact hQ

