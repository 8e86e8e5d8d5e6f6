/-! the tape of the reference -/
def by_ (v : Int) (k : Nat) : Int := am_and (am_shr v (k : Int)) 255
/-- one number put on the tape at place t -/
def pt_ (f : Nat → Int) (t : Nat) (v : Int) : Nat → Int := am_up (am_up (am_up (am_up f t (by_ v 24)) (t + 1) (by_ v 16)) (t + 2) (by_ v 8)) (t + 3) (by_ v 0)
def fo_ (σ : am_S) (t : Nat) (v : Int) : am_S := am_sI (am_sI σ 136 (pt_ (σ.1 136) t v)) 135 (am_up (σ.1 135) 1 ((t + 4 : Nat) : Int))
theorem fo_t {σ : am_S} {t : Nat} {v : Int} : (fo_ σ t v).1 135 1 = ((t + 4 : Nat) : Int) := by unfold fo_; rw [sI_at, am_up_same]

theorem m_four {d : Nat} (hd : 1 ≤ d) {σ : am_S} {t : Nat} (ht : σ.1 135 1 = (t : Int)) (ht9 : t + 4 ≤ 1600) {v : Int} {Q : Option am_V → am_S → Prop} (hQ : Q none (fo_ σ t v)) : am_Ev d 140 [am_R 135, am_I v] σ Q := by
  obtain ⟨d, rfl⟩ : ∃ e, d = e + 1 := ⟨d - 1, by omega⟩
  refine ev_in (m := 140) (c := k_X9_four) (L := [some (am_R 135), some (am_I v), none]) rfl rfl rfl rfl rfl rfl ?_
  refine ax_const (q := 2) (v := am_I 24) rfl rfl rfl ?_
  refine ax_store (q := 3) (L' := [some (am_R 135), some (am_I v), some (am_I 24)]) rfl rfl rfl rfl rfl rfl ?_
  refine ax_load (q := 4) rfl rfl rfl rfl rfl ?_
  refine ax_if_lt (q := 7) (x := 39) rfl rfl (fun h => absurd h (by omega)) (fun h4 => ?_)
  refine ax_load (q := 8) rfl rfl rfl rfl rfl ?_
  refine ax_getf (q := 11) (v := am_R 136) rfl rfl (rfl) ?_
  refine ax_load (q := 12) rfl rfl rfl rfl rfl ?_
  refine ax_getf (q := 15) (v := am_I ((t : Nat) : Int)) rfl rfl (am_fg rfl ht) ?_
  refine ax_load (q := 16) rfl rfl rfl rfl rfl ?_
  refine ax_load (q := 17) rfl rfl rfl rfl rfl ?_
  refine ax_ishr (q := 18) (z := am_shr v (24 : Int)) rfl rfl (rfl) ?_
  refine ax_const (q := 21) (v := am_I 255) rfl rfl rfl ?_
  refine ax_iand (q := 22) (z := by_ v 24) rfl rfl (rfl) ?_
  refine bx_iast (q := 23) (k := t) rfl rfl (rfl) (by omega) (by omega) ?_
  refine ax_load (q := 24) rfl rfl rfl rfl rfl ?_
  refine ax_dup (q := 25) rfl rfl rfl ?_
  refine ax_getf (q := 28) (v := am_I ((t : Nat) : Int)) rfl rfl (am_fg rfl ((congrFun (sI_ne (by decide)) _).trans ht)) ?_
  refine ax_const (q := 29) (v := am_I 1) rfl rfl rfl ?_
  refine ax_iadd (q := 30) (z := (((t + 1) : Nat) : Int)) rfl rfl (am_we (by omega) (by omega) (by omega)) ?_
  refine ax_putf (q := 33) rfl rfl rfl ?_
  refine ax_iinc (q := 36) (z' := ((16 : Nat) : Int)) (L' := [some (am_R 135), some (am_I v), some (am_I ((16 : Nat) : Int))]) rfl rfl rfl rfl (am_we (by omega) (by omega) (by omega)) rfl ?_
  refine ax_goto (x := 3) rfl ?_
  obtain ⟨σ1, hσ1⟩ : ∃ s, s = (am_sI (am_sI σ 136 (am_up (σ.1 136) t (by_ v 24))) 135 (am_up ((am_sI σ 136 (am_up (σ.1 136) t (by_ v 24))).1 135) 1 (((t + 1) : Nat) : Int))) := ⟨_, rfl⟩
  rw [← hσ1]
  have ht1 : σ1.1 135 1 = ((t + 1 : Nat) : Int) := by rw [hσ1, sI_at, am_up_same]
  refine ax_load (q := 4) rfl rfl rfl rfl rfl ?_
  refine ax_if_lt (q := 7) (x := 39) rfl rfl (fun h => absurd h (by omega)) (fun h4 => ?_)
  refine ax_load (q := 8) rfl rfl rfl rfl rfl ?_
  refine ax_getf (q := 11) (v := am_R 136) rfl rfl (rfl) ?_
  refine ax_load (q := 12) rfl rfl rfl rfl rfl ?_
  refine ax_getf (q := 15) (v := am_I (((t + 1) : Nat) : Int)) rfl rfl (am_fg rfl ht1) ?_
  refine ax_load (q := 16) rfl rfl rfl rfl rfl ?_
  refine ax_load (q := 17) rfl rfl rfl rfl rfl ?_
  refine ax_ishr (q := 18) (z := am_shr v (16 : Int)) rfl rfl (rfl) ?_
  refine ax_const (q := 21) (v := am_I 255) rfl rfl rfl ?_
  refine ax_iand (q := 22) (z := by_ v 16) rfl rfl (rfl) ?_
  refine bx_iast (q := 23) (k := (t + 1)) rfl rfl (rfl) (by omega) (by omega) ?_
  refine ax_load (q := 24) rfl rfl rfl rfl rfl ?_
  refine ax_dup (q := 25) rfl rfl rfl ?_
  refine ax_getf (q := 28) (v := am_I (((t + 1) : Nat) : Int)) rfl rfl (am_fg rfl ((congrFun (sI_ne (by decide)) _).trans ht1)) ?_
  refine ax_const (q := 29) (v := am_I 1) rfl rfl rfl ?_
  refine ax_iadd (q := 30) (z := (((t + 2) : Nat) : Int)) rfl rfl (am_we (by omega) (by omega) (by omega)) ?_
  refine ax_putf (q := 33) rfl rfl rfl ?_
  refine ax_iinc (q := 36) (z' := ((8 : Nat) : Int)) (L' := [some (am_R 135), some (am_I v), some (am_I ((8 : Nat) : Int))]) rfl rfl rfl rfl (am_we (by omega) (by omega) (by omega)) rfl ?_
  refine ax_goto (x := 3) rfl ?_
  obtain ⟨σ2, hσ2⟩ : ∃ s, s = (am_sI (am_sI σ1 136 (am_up (σ1.1 136) (t + 1) (by_ v 16))) 135 (am_up ((am_sI σ1 136 (am_up (σ1.1 136) (t + 1) (by_ v 16))).1 135) 1 (((t + 2) : Nat) : Int))) := ⟨_, rfl⟩
  rw [← hσ2]
  have ht2 : σ2.1 135 1 = ((t + 2 : Nat) : Int) := by rw [hσ2, sI_at, am_up_same]
  refine ax_load (q := 4) rfl rfl rfl rfl rfl ?_
  refine ax_if_lt (q := 7) (x := 39) rfl rfl (fun h => absurd h (by omega)) (fun h4 => ?_)
  refine ax_load (q := 8) rfl rfl rfl rfl rfl ?_
  refine ax_getf (q := 11) (v := am_R 136) rfl rfl (rfl) ?_
  refine ax_load (q := 12) rfl rfl rfl rfl rfl ?_
  refine ax_getf (q := 15) (v := am_I (((t + 2) : Nat) : Int)) rfl rfl (am_fg rfl ht2) ?_
  refine ax_load (q := 16) rfl rfl rfl rfl rfl ?_
  refine ax_load (q := 17) rfl rfl rfl rfl rfl ?_
  refine ax_ishr (q := 18) (z := am_shr v (8 : Int)) rfl rfl (rfl) ?_
  refine ax_const (q := 21) (v := am_I 255) rfl rfl rfl ?_
  refine ax_iand (q := 22) (z := by_ v 8) rfl rfl (rfl) ?_
  refine bx_iast (q := 23) (k := (t + 2)) rfl rfl (rfl) (by omega) (by omega) ?_
  refine ax_load (q := 24) rfl rfl rfl rfl rfl ?_
  refine ax_dup (q := 25) rfl rfl rfl ?_
  refine ax_getf (q := 28) (v := am_I (((t + 2) : Nat) : Int)) rfl rfl (am_fg rfl ((congrFun (sI_ne (by decide)) _).trans ht2)) ?_
  refine ax_const (q := 29) (v := am_I 1) rfl rfl rfl ?_
  refine ax_iadd (q := 30) (z := (((t + 3) : Nat) : Int)) rfl rfl (am_we (by omega) (by omega) (by omega)) ?_
  refine ax_putf (q := 33) rfl rfl rfl ?_
  refine ax_iinc (q := 36) (z' := ((0 : Nat) : Int)) (L' := [some (am_R 135), some (am_I v), some (am_I ((0 : Nat) : Int))]) rfl rfl rfl rfl (am_we (by omega) (by omega) (by omega)) rfl ?_
  refine ax_goto (x := 3) rfl ?_
  obtain ⟨σ3, hσ3⟩ : ∃ s, s = (am_sI (am_sI σ2 136 (am_up (σ2.1 136) (t + 2) (by_ v 8))) 135 (am_up ((am_sI σ2 136 (am_up (σ2.1 136) (t + 2) (by_ v 8))).1 135) 1 (((t + 3) : Nat) : Int))) := ⟨_, rfl⟩
  rw [← hσ3]
  have ht3 : σ3.1 135 1 = ((t + 3 : Nat) : Int) := by rw [hσ3, sI_at, am_up_same]
  refine ax_load (q := 4) rfl rfl rfl rfl rfl ?_
  refine ax_if_lt (q := 7) (x := 39) rfl rfl (fun h => absurd h (by omega)) (fun h4 => ?_)
  refine ax_load (q := 8) rfl rfl rfl rfl rfl ?_
  refine ax_getf (q := 11) (v := am_R 136) rfl rfl (rfl) ?_
  refine ax_load (q := 12) rfl rfl rfl rfl rfl ?_
  refine ax_getf (q := 15) (v := am_I (((t + 3) : Nat) : Int)) rfl rfl (am_fg rfl ht3) ?_
  refine ax_load (q := 16) rfl rfl rfl rfl rfl ?_
  refine ax_load (q := 17) rfl rfl rfl rfl rfl ?_
  refine ax_ishr (q := 18) (z := am_shr v (0 : Int)) rfl rfl (rfl) ?_
  refine ax_const (q := 21) (v := am_I 255) rfl rfl rfl ?_
  refine ax_iand (q := 22) (z := by_ v 0) rfl rfl (rfl) ?_
  refine bx_iast (q := 23) (k := (t + 3)) rfl rfl (rfl) (by omega) (by omega) ?_
  refine ax_load (q := 24) rfl rfl rfl rfl rfl ?_
  refine ax_dup (q := 25) rfl rfl rfl ?_
  refine ax_getf (q := 28) (v := am_I (((t + 3) : Nat) : Int)) rfl rfl (am_fg rfl ((congrFun (sI_ne (by decide)) _).trans ht3)) ?_
  refine ax_const (q := 29) (v := am_I 1) rfl rfl rfl ?_
  refine ax_iadd (q := 30) (z := (((t + 4) : Nat) : Int)) rfl rfl (am_we (by omega) (by omega) (by omega)) ?_
  refine ax_putf (q := 33) rfl rfl rfl ?_
  refine ax_iinc (q := 36) (z' := (-8)) (L' := [some (am_R 135), some (am_I v), some (am_I (-8))]) rfl rfl rfl rfl (am_we (by omega) (by omega) (by omega)) rfl ?_
  refine ax_goto (x := 3) rfl ?_
  obtain ⟨σ4, hσ4⟩ : ∃ s, s = (am_sI (am_sI σ3 136 (am_up (σ3.1 136) (t + 3) (by_ v 0))) 135 (am_up ((am_sI σ3 136 (am_up (σ3.1 136) (t + 3) (by_ v 0))).1 135) 1 (((t + 4) : Nat) : Int))) := ⟨_, rfl⟩
  rw [← hσ4]
  have ht4 : σ4.1 135 1 = ((t + 4 : Nat) : Int) := by rw [hσ4, sI_at, am_up_same]
  refine ax_load (q := 4) rfl rfl rfl rfl rfl ?_
  refine ax_if_lt (q := 7) (x := 39) rfl rfl (fun h4 => ?_) (fun h => absurd h (by omega))
  refine ax_ret (r := none) rfl rfl ?_
  refine Eq.mp (congrArg (fun s => Q none s) ?_) hQ
  rw [hσ4, hσ3, hσ2, hσ1]
  unfold fo_ pt_
  simp only [am_up_same, sI_at, sI_ne (show (135 : Nat) ≠ 136 by decide), sI_ne (show (136 : Nat) ≠ 135 by decide), sI_sI, up_up]
  refine Prod.ext (funext fun b => ?_) rfl
  by_cases h1 : b = 135
  · subst h1; simp only [am_up_same, sI_at, sI_ne (show (135 : Nat) ≠ 136 by decide), sI_ne (show (136 : Nat) ≠ 135 by decide), sI_sI, up_up]
  · by_cases h2 : b = 136
    · subst h2; simp only [am_up_same, sI_at, sI_ne (show (135 : Nat) ≠ 136 by decide), sI_ne (show (136 : Nat) ≠ 135 by decide), sI_sI, up_up]
    · simp only [sI_ne h1, sI_ne h2]

def fd_ (σ : am_S) (t : Nat) (a b c e g : Int) : am_S := fo_ (fo_ (fo_ (fo_ (fo_ σ t a) (t + 4) b) (t + 8) c) (t + 12) e) (t + 16) g

theorem m_feed {d : Nat} (hd : 2 ≤ d) {σ : am_S} {t : Nat} (ht : σ.1 135 1 = (t : Int)) (ht9 : t ≤ 1600) {a b c e g : Int} {Q : Option am_V → am_S → Prop} (hN : 1580 < t → Q (some (am_I (-1))) σ) (hY : t ≤ 1580 → Q (some (am_I ((t + 20 : Nat) : Int))) (fd_ σ t a b c e g)) : am_Ev d 139 [am_R 135, am_I a, am_I b, am_I c, am_I e, am_I g] σ Q := by
  obtain ⟨d, rfl⟩ : ∃ e, d = e + 1 := ⟨d - 1, by omega⟩
  refine ev_in (m := 139) (c := k_X9_feed) (L := [some (am_R 135), some (am_I a), some (am_I b), some (am_I c), some (am_I e), some (am_I g)]) rfl rfl rfl rfl rfl rfl ?_
  refine ax_load (q := 1) rfl rfl rfl rfl rfl ?_
  refine ax_getf (q := 4) (v := am_I ((t : Nat) : Int)) rfl rfl (am_fg rfl ht) ?_
  refine ax_const (q := 6) (v := am_I 20) rfl rfl rfl ?_
  refine ax_iadd (q := 7) (z := ((t + 20 : Nat) : Int)) rfl rfl (am_we (by omega) (by omega) (by omega)) ?_
  refine ax_const (q := 10) (v := am_I 1600) rfl rfl rfl ?_
  refine ax_icmp_le (q := 13) (x := 15) rfl rfl (fun h10 => ?_) (fun h10 => ?_)
  · refine ax_load (q := 16) rfl rfl rfl rfl rfl ?_
    refine ax_load (q := 17) rfl rfl rfl rfl rfl ?_
    refine ax_callv (q := 20) rfl rfl rfl rfl rfl rfl ?_
    refine m_four (t := t) (by omega) ht (by omega) ?_
    obtain ⟨σ1, hσ1⟩ : ∃ s, s = fo_ σ t a := ⟨_, rfl⟩
    rw [← hσ1]
    have ht1 : σ1.1 135 1 = ((t + 4 : Nat) : Int) := by rw [hσ1]; exact fo_t
    refine ax_load (q := 21) rfl rfl rfl rfl rfl ?_
    refine ax_load (q := 22) rfl rfl rfl rfl rfl ?_
    refine ax_callv (q := 25) rfl rfl rfl rfl rfl rfl ?_
    refine m_four (t := (t + 4)) (by omega) ht1 (by omega) ?_
    obtain ⟨σ2, hσ2⟩ : ∃ s, s = fo_ σ1 (t + 4) b := ⟨_, rfl⟩
    rw [← hσ2]
    have ht2 : σ2.1 135 1 = ((t + 8 : Nat) : Int) := by rw [hσ2]; exact fo_t
    refine ax_load (q := 26) rfl rfl rfl rfl rfl ?_
    refine ax_load (q := 27) rfl rfl rfl rfl rfl ?_
    refine ax_callv (q := 30) rfl rfl rfl rfl rfl rfl ?_
    refine m_four (t := (t + 8)) (by omega) ht2 (by omega) ?_
    obtain ⟨σ3, hσ3⟩ : ∃ s, s = fo_ σ2 (t + 8) c := ⟨_, rfl⟩
    rw [← hσ3]
    have ht3 : σ3.1 135 1 = ((t + 12 : Nat) : Int) := by rw [hσ3]; exact fo_t
    refine ax_load (q := 31) rfl rfl rfl rfl rfl ?_
    refine ax_load (q := 33) rfl rfl rfl rfl rfl ?_
    refine ax_callv (q := 36) rfl rfl rfl rfl rfl rfl ?_
    refine m_four (t := (t + 12)) (by omega) ht3 (by omega) ?_
    obtain ⟨σ4, hσ4⟩ : ∃ s, s = fo_ σ3 (t + 12) e := ⟨_, rfl⟩
    rw [← hσ4]
    have ht4 : σ4.1 135 1 = ((t + 16 : Nat) : Int) := by rw [hσ4]; exact fo_t
    refine ax_load (q := 37) rfl rfl rfl rfl rfl ?_
    refine ax_load (q := 39) rfl rfl rfl rfl rfl ?_
    refine ax_callv (q := 42) rfl rfl rfl rfl rfl rfl ?_
    refine m_four (t := (t + 16)) (by omega) ht4 (by omega) ?_
    obtain ⟨σ5, hσ5⟩ : ∃ s, s = fo_ σ4 (t + 16) g := ⟨_, rfl⟩
    rw [← hσ5]
    have ht5 : σ5.1 135 1 = ((t + 20 : Nat) : Int) := by rw [hσ5]; exact fo_t
    refine ax_load (q := 43) rfl rfl rfl rfl rfl ?_
    refine ax_getf (q := 46) (v := am_I (((t + 20) : Nat) : Int)) rfl rfl (am_fg rfl ht5) ?_
    refine ax_ret (r := some (am_I (((t + 20) : Nat) : Int))) rfl rfl ?_
    rw [hσ5, hσ4, hσ3, hσ2, hσ1]
    exact hY (by omega)
  · refine ax_const (q := 14) (v := am_I (-1)) rfl rfl rfl ?_
    refine ax_ret (r := some (am_I (-1))) rfl rfl ?_
    exact hN (by omega)

theorem m_end {d : Nat} (hd : 1 ≤ d) {σ : am_S} {t : Nat} (ht : σ.1 135 1 = (t : Int)) {a : Int} {Q : Option am_V → am_S → Prop} (hN : ¬ (0 ≤ a ∧ a ≤ t) → Q (some (am_I (-1))) σ) (hY : 0 ≤ a ∧ a ≤ t → Q (some (am_I a)) (am_sI σ 135 (am_up (σ.1 135) 1 a))) : am_Ev d 141 [am_R 135, am_I a] σ Q := by
  obtain ⟨d, rfl⟩ : ∃ e, d = e + 1 := ⟨d - 1, by omega⟩
  refine ev_in (m := 141) (c := k_X9_end) (L := [some (am_R 135), some (am_I a)]) rfl rfl rfl rfl rfl rfl ?_
  refine ax_load (q := 1) rfl rfl rfl rfl rfl ?_
  refine ax_if_lt (q := 4) (x := 12) rfl rfl (fun h1 => ?_) (fun h1 => ?_)
  · refine ax_const (q := 13) (v := am_I (-1)) rfl rfl rfl ?_
    refine ax_ret (r := some (am_I (-1))) rfl rfl ?_
    exact hN (by omega)
  · refine ax_load (q := 5) rfl rfl rfl rfl rfl ?_
    refine ax_load (q := 6) rfl rfl rfl rfl rfl ?_
    refine ax_getf (q := 9) (v := am_I ((t : Nat) : Int)) rfl rfl (am_fg rfl ht) ?_
    refine ax_icmp_le (q := 12) (x := 14) rfl rfl (fun h9 => ?_) (fun h9 => ?_)
    · refine ax_load (q := 15) rfl rfl rfl rfl rfl ?_
      refine ax_load (q := 16) rfl rfl rfl rfl rfl ?_
      refine ax_putf (q := 19) rfl rfl rfl ?_
      refine ax_load (q := 20) rfl rfl rfl rfl rfl ?_
      refine ax_ret (r := some (am_I a)) rfl rfl ?_
      exact hY (by omega)
    · refine ax_const (q := 13) (v := am_I (-1)) rfl rfl rfl ?_
      refine ax_ret (r := some (am_I (-1))) rfl rfl ?_
      exact hN (by omega)

def lt_ (c : Int) : Bool := decide (97 ≤ c ∧ c ≤ 122)
def dt_ (c : Int) : Bool := decide (48 ≤ c ∧ c ≤ 57)
def si_ (c : Int) : Bool := decide (c = 59 ∨ c = 40 ∨ c = 41 ∨ c = 60 ∨ c = 62 ∨ c = 61 ∨ c = 43 ∨ c = 45 ∨ c = 42 ∨ c = 47 ∨ c = 37)

theorem m_isLetter {d : Nat} (hd : 1 ≤ d) {σ : am_S} {c : Int} {Q : Option am_V → am_S → Prop} (hQ : Q (some (am_I (if lt_ c then 1 else 0))) σ) : am_Ev d 143 [am_I c] σ Q := by
  obtain ⟨d, rfl⟩ : ∃ e, d = e + 1 := ⟨d - 1, by omega⟩
  refine ev_in (m := 143) (c := k_X9_isLetter) (L := [some (am_I c)]) rfl rfl rfl rfl rfl rfl ?_
  refine ax_load (q := 1) rfl rfl rfl rfl rfl ?_
  refine ax_const (q := 3) (v := am_I 97) rfl rfl rfl ?_
  refine ax_icmp_lt (q := 6) (x := 16) rfl rfl (fun h3 => ?_) (fun h3 => ?_)
  · refine ax_const (q := 17) (v := am_I 0) rfl rfl rfl ?_
    refine ax_ret (r := some (am_I 0)) rfl ⟨rfl, Or.inl rfl⟩ ?_
    have e : lt_ c = false := decide_eq_false (by omega)
    rw [e] at hQ
    exact hQ
  · refine ax_load (q := 7) rfl rfl rfl rfl rfl ?_
    refine ax_const (q := 9) (v := am_I 122) rfl rfl rfl ?_
    refine ax_icmp_gt (q := 12) (x := 16) rfl rfl (fun h9 => ?_) (fun h9 => ?_)
    · refine ax_const (q := 17) (v := am_I 0) rfl rfl rfl ?_
      refine ax_ret (r := some (am_I 0)) rfl ⟨rfl, Or.inl rfl⟩ ?_
      have e : lt_ c = false := decide_eq_false (by omega)
      rw [e] at hQ
      exact hQ
    · refine ax_const (q := 13) (v := am_I 1) rfl rfl rfl ?_
      refine ax_goto (x := 17) rfl ?_
      refine ax_ret (r := some (am_I 1)) rfl ⟨rfl, Or.inr rfl⟩ ?_
      have e : lt_ c = true := decide_eq_true (by omega)
      rw [e] at hQ
      exact hQ

theorem m_isDigit {d : Nat} (hd : 1 ≤ d) {σ : am_S} {c : Int} {Q : Option am_V → am_S → Prop} (hQ : Q (some (am_I (if dt_ c then 1 else 0))) σ) : am_Ev d 144 [am_I c] σ Q := by
  obtain ⟨d, rfl⟩ : ∃ e, d = e + 1 := ⟨d - 1, by omega⟩
  refine ev_in (m := 144) (c := k_X9_isDigit) (L := [some (am_I c)]) rfl rfl rfl rfl rfl rfl ?_
  refine ax_load (q := 1) rfl rfl rfl rfl rfl ?_
  refine ax_const (q := 3) (v := am_I 48) rfl rfl rfl ?_
  refine ax_icmp_lt (q := 6) (x := 16) rfl rfl (fun h3 => ?_) (fun h3 => ?_)
  · refine ax_const (q := 17) (v := am_I 0) rfl rfl rfl ?_
    refine ax_ret (r := some (am_I 0)) rfl ⟨rfl, Or.inl rfl⟩ ?_
    have e : dt_ c = false := decide_eq_false (by omega)
    rw [e] at hQ
    exact hQ
  · refine ax_load (q := 7) rfl rfl rfl rfl rfl ?_
    refine ax_const (q := 9) (v := am_I 57) rfl rfl rfl ?_
    refine ax_icmp_gt (q := 12) (x := 16) rfl rfl (fun h9 => ?_) (fun h9 => ?_)
    · refine ax_const (q := 17) (v := am_I 0) rfl rfl rfl ?_
      refine ax_ret (r := some (am_I 0)) rfl ⟨rfl, Or.inl rfl⟩ ?_
      have e : dt_ c = false := decide_eq_false (by omega)
      rw [e] at hQ
      exact hQ
    · refine ax_const (q := 13) (v := am_I 1) rfl rfl rfl ?_
      refine ax_goto (x := 17) rfl ?_
      refine ax_ret (r := some (am_I 1)) rfl ⟨rfl, Or.inr rfl⟩ ?_
      have e : dt_ c = true := decide_eq_true (by omega)
      rw [e] at hQ
      exact hQ

theorem m_isSign {d : Nat} (hd : 1 ≤ d) {σ : am_S} {c : Int} {Q : Option am_V → am_S → Prop} (hQ : Q (some (am_I (if si_ c then 1 else 0))) σ) : am_Ev d 145 [am_I c] σ Q := by
  obtain ⟨d, rfl⟩ : ∃ e, d = e + 1 := ⟨d - 1, by omega⟩
  refine ev_in (m := 145) (c := k_X9_isSign) (L := [some (am_I c)]) rfl rfl rfl rfl rfl rfl ?_
  refine ax_load (q := 1) rfl rfl rfl rfl rfl ?_
  refine ax_const (q := 3) (v := am_I 59) rfl rfl rfl ?_
  refine ax_icmp_eq (q := 6) (x := 66) rfl rfl (fun h3 => ?_) (fun h3 => ?_)
  · refine ax_const (q := 67) (v := am_I 1) rfl rfl rfl ?_
    refine ax_goto (x := 71) rfl ?_
    refine ax_ret (r := some (am_I 1)) rfl ⟨rfl, Or.inr rfl⟩ ?_
    have e : si_ c = true := decide_eq_true (by omega)
    rw [e] at hQ
    exact hQ
  · refine ax_load (q := 7) rfl rfl rfl rfl rfl ?_
    refine ax_const (q := 9) (v := am_I 40) rfl rfl rfl ?_
    refine ax_icmp_eq (q := 12) (x := 66) rfl rfl (fun h9 => ?_) (fun h9 => ?_)
    · refine ax_const (q := 67) (v := am_I 1) rfl rfl rfl ?_
      refine ax_goto (x := 71) rfl ?_
      refine ax_ret (r := some (am_I 1)) rfl ⟨rfl, Or.inr rfl⟩ ?_
      have e : si_ c = true := decide_eq_true (by omega)
      rw [e] at hQ
      exact hQ
    · refine ax_load (q := 13) rfl rfl rfl rfl rfl ?_
      refine ax_const (q := 15) (v := am_I 41) rfl rfl rfl ?_
      refine ax_icmp_eq (q := 18) (x := 66) rfl rfl (fun h15 => ?_) (fun h15 => ?_)
      · refine ax_const (q := 67) (v := am_I 1) rfl rfl rfl ?_
        refine ax_goto (x := 71) rfl ?_
        refine ax_ret (r := some (am_I 1)) rfl ⟨rfl, Or.inr rfl⟩ ?_
        have e : si_ c = true := decide_eq_true (by omega)
        rw [e] at hQ
        exact hQ
      · refine ax_load (q := 19) rfl rfl rfl rfl rfl ?_
        refine ax_const (q := 21) (v := am_I 60) rfl rfl rfl ?_
        refine ax_icmp_eq (q := 24) (x := 66) rfl rfl (fun h21 => ?_) (fun h21 => ?_)
        · refine ax_const (q := 67) (v := am_I 1) rfl rfl rfl ?_
          refine ax_goto (x := 71) rfl ?_
          refine ax_ret (r := some (am_I 1)) rfl ⟨rfl, Or.inr rfl⟩ ?_
          have e : si_ c = true := decide_eq_true (by omega)
          rw [e] at hQ
          exact hQ
        · refine ax_load (q := 25) rfl rfl rfl rfl rfl ?_
          refine ax_const (q := 27) (v := am_I 62) rfl rfl rfl ?_
          refine ax_icmp_eq (q := 30) (x := 66) rfl rfl (fun h27 => ?_) (fun h27 => ?_)
          · refine ax_const (q := 67) (v := am_I 1) rfl rfl rfl ?_
            refine ax_goto (x := 71) rfl ?_
            refine ax_ret (r := some (am_I 1)) rfl ⟨rfl, Or.inr rfl⟩ ?_
            have e : si_ c = true := decide_eq_true (by omega)
            rw [e] at hQ
            exact hQ
          · refine ax_load (q := 31) rfl rfl rfl rfl rfl ?_
            refine ax_const (q := 33) (v := am_I 61) rfl rfl rfl ?_
            refine ax_icmp_eq (q := 36) (x := 66) rfl rfl (fun h33 => ?_) (fun h33 => ?_)
            · refine ax_const (q := 67) (v := am_I 1) rfl rfl rfl ?_
              refine ax_goto (x := 71) rfl ?_
              refine ax_ret (r := some (am_I 1)) rfl ⟨rfl, Or.inr rfl⟩ ?_
              have e : si_ c = true := decide_eq_true (by omega)
              rw [e] at hQ
              exact hQ
            · refine ax_load (q := 37) rfl rfl rfl rfl rfl ?_
              refine ax_const (q := 39) (v := am_I 43) rfl rfl rfl ?_
              refine ax_icmp_eq (q := 42) (x := 66) rfl rfl (fun h39 => ?_) (fun h39 => ?_)
              · refine ax_const (q := 67) (v := am_I 1) rfl rfl rfl ?_
                refine ax_goto (x := 71) rfl ?_
                refine ax_ret (r := some (am_I 1)) rfl ⟨rfl, Or.inr rfl⟩ ?_
                have e : si_ c = true := decide_eq_true (by omega)
                rw [e] at hQ
                exact hQ
              · refine ax_load (q := 43) rfl rfl rfl rfl rfl ?_
                refine ax_const (q := 45) (v := am_I 45) rfl rfl rfl ?_
                refine ax_icmp_eq (q := 48) (x := 66) rfl rfl (fun h45 => ?_) (fun h45 => ?_)
                · refine ax_const (q := 67) (v := am_I 1) rfl rfl rfl ?_
                  refine ax_goto (x := 71) rfl ?_
                  refine ax_ret (r := some (am_I 1)) rfl ⟨rfl, Or.inr rfl⟩ ?_
                  have e : si_ c = true := decide_eq_true (by omega)
                  rw [e] at hQ
                  exact hQ
                · refine ax_load (q := 49) rfl rfl rfl rfl rfl ?_
                  refine ax_const (q := 51) (v := am_I 42) rfl rfl rfl ?_
                  refine ax_icmp_eq (q := 54) (x := 66) rfl rfl (fun h51 => ?_) (fun h51 => ?_)
                  · refine ax_const (q := 67) (v := am_I 1) rfl rfl rfl ?_
                    refine ax_goto (x := 71) rfl ?_
                    refine ax_ret (r := some (am_I 1)) rfl ⟨rfl, Or.inr rfl⟩ ?_
                    have e : si_ c = true := decide_eq_true (by omega)
                    rw [e] at hQ
                    exact hQ
                  · refine ax_load (q := 55) rfl rfl rfl rfl rfl ?_
                    refine ax_const (q := 57) (v := am_I 47) rfl rfl rfl ?_
                    refine ax_icmp_eq (q := 60) (x := 66) rfl rfl (fun h57 => ?_) (fun h57 => ?_)
                    · refine ax_const (q := 67) (v := am_I 1) rfl rfl rfl ?_
                      refine ax_goto (x := 71) rfl ?_
                      refine ax_ret (r := some (am_I 1)) rfl ⟨rfl, Or.inr rfl⟩ ?_
                      have e : si_ c = true := decide_eq_true (by omega)
                      rw [e] at hQ
                      exact hQ
                    · refine ax_load (q := 61) rfl rfl rfl rfl rfl ?_
                      refine ax_const (q := 63) (v := am_I 37) rfl rfl rfl ?_
                      refine ax_icmp_ne (q := 66) (x := 70) rfl rfl (fun h63 => ?_) (fun h63 => ?_)
                      · refine ax_const (q := 71) (v := am_I 0) rfl rfl rfl ?_
                        refine ax_ret (r := some (am_I 0)) rfl ⟨rfl, Or.inl rfl⟩ ?_
                        have e : si_ c = false := decide_eq_false (by omega)
                        rw [e] at hQ
                        exact hQ
                      · refine ax_const (q := 67) (v := am_I 1) rfl rfl rfl ?_
                        refine ax_goto (x := 71) rfl ?_
                        refine ax_ret (r := some (am_I 1)) rfl ⟨rfl, Or.inr rfl⟩ ?_
                        have e : si_ c = true := decide_eq_true (by omega)
                        rw [e] at hQ
                        exact hQ

/-- the byte at place j, -1 behind the last -/
def hr_ (tp : Nat → Int) (n j : Nat) : Int := if j < n then tp j else -1

theorem m_here {d : Nat} (hd : 1 ≤ d) {σ : am_S} {tp : Nat → Int} (h136 : σ.1 136 = tp) {n a k : Nat} (hn : σ.1 135 5 = (n : Int)) (hat : σ.1 135 4 = (a : Int)) (hn9 : n ≤ 1600) (hak : a + k ≤ 100000) {Q : Option am_V → am_S → Prop} (hQ : Q (some (am_I (hr_ tp n (a + k)))) σ) : am_Ev d 142 [am_R 135, am_I ((k : Nat) : Int)] σ Q := by
  obtain ⟨d, rfl⟩ : ∃ e, d = e + 1 := ⟨d - 1, by omega⟩
  refine ev_in (m := 142) (c := k_X9_here) (L := [some (am_R 135), some (am_I ((k : Nat) : Int))]) rfl rfl rfl rfl rfl rfl ?_
  refine ax_load (q := 1) rfl rfl rfl rfl rfl ?_
  refine ax_getf (q := 4) (v := am_I ((a : Nat) : Int)) rfl rfl (am_fg rfl hat) ?_
  refine ax_load (q := 5) rfl rfl rfl rfl rfl ?_
  refine ax_iadd (q := 6) (z := ((a + k : Nat) : Int)) rfl rfl (am_we (by omega) (by omega) (by omega)) ?_
  refine ax_load (q := 7) rfl rfl rfl rfl rfl ?_
  refine ax_getf (q := 10) (v := am_I ((n : Nat) : Int)) rfl rfl (am_fg rfl hn) ?_
  refine ax_icmp_ge (q := 13) (x := 27) rfl rfl (fun h10 => ?_) (fun h10 => ?_)
  · refine ax_const (q := 28) (v := am_I (-1)) rfl rfl rfl ?_
    refine ax_ret (r := some (am_I (-1))) rfl rfl ?_
    have e : hr_ tp n (a + k) = (-1) := by unfold hr_; first | exact if_pos (by omega) | exact if_neg (by omega)
    rw [← e]
    exact hQ
  · refine ax_load (q := 14) rfl rfl rfl rfl rfl ?_
    refine ax_getf (q := 17) (v := am_R 136) rfl rfl (rfl) ?_
    refine ax_load (q := 18) rfl rfl rfl rfl rfl ?_
    refine ax_getf (q := 21) (v := am_I ((a : Nat) : Int)) rfl rfl (am_fg rfl hat) ?_
    refine ax_load (q := 22) rfl rfl rfl rfl rfl ?_
    refine ax_iadd (q := 23) (z := ((a + k : Nat) : Int)) rfl rfl (am_we (by omega) (by omega) (by omega)) ?_
    refine bx_iald (q := 24) (k := a + k) (z := tp (a + k)) rfl rfl (rfl) (by omega) (by omega) (congrFun h136 _) ?_
    refine ax_goto (x := 28) rfl ?_
    refine ax_ret (r := some (am_I (tp (a + k)))) rfl rfl ?_
    have e : hr_ tp n (a + k) = tp (a + k) := by unfold hr_; first | exact if_pos (by omega) | exact if_neg (by omega)
    rw [← e]
    exact hQ

theorem l_drawOf {d : Nat} {σ : am_S} {T : sp_T} (hT : TM_ T σ) (hV : TV_ T) {q : Nat} (hq : q < nR_ T) {x2 : Int} {Q : Option am_V → am_S → Prop} : ∀ (m o : Nat) (l : Int), o + m = nO_ T → 0 ≤ l → l < su_ (nO_ T) (fun o => T 158 (8 * q + o)) - su_ o (fun o => T 158 (8 * q + o)) → (hQ : Q (some (am_I (dq_ T q m o l))) σ) → aW d 0 k_X9_drawOf Q 22 [some (am_R 135), some (am_I ((q : Nat) : Int)), some (am_I x2), some (am_I l), some (am_I ((o : Nat) : Int))] [] σ := by
  have hO := hV.nO
  have hR := hV.nR
  intro m
  induction m with
  | zero =>
    intro o l ho h0 hl hQ
    obtain rfl : o = nO_ T := by omega
    omega
  | succ m ih =>
    intro o l ho h0 hl hQ
    have hb := hV.od hq (o := o) (by omega)
    have hsu := su_bd (f := fun o => T 158 (8 * q + o)) (b := 9) (by omega) (nO_ T) (fun k hk => hV.od hq hk)
    have hsu2 := su_bd (f := fun o => T 158 (8 * q + o)) (b := 9) (by omega) o (fun k hk => hV.od hq (by omega))
    refine ax_load (q := 23) rfl rfl rfl rfl rfl ?_
    refine ax_load (q := 24) rfl rfl rfl rfl rfl ?_
    refine ax_getf (q := 27) (v := am_R 158) rfl rfl (rfl) ?_
    refine ax_const (q := 29) (v := am_I 8) rfl rfl rfl ?_
    refine ax_load (q := 30) rfl rfl rfl rfl rfl ?_
    refine ax_imul (q := 31) (z := ((8 * q : Nat) : Int)) rfl rfl (am_we (by omega) (by omega) (by omega)) ?_
    refine ax_load (q := 33) rfl rfl rfl rfl rfl ?_
    refine ax_iadd (q := 34) (z := (((8 * q) + o : Nat) : Int)) rfl rfl (am_we (by omega) (by omega) (by omega)) ?_
    refine bx_iald (q := 35) (k := (8 * q) + o) (z := T 158 ((8 * q) + o)) rfl rfl (rfl) (by omega) (by omega) (congrFun hT.a158 _) ?_
    refine ax_icmp_lt (q := 38) (x := 59) rfl rfl (fun h35 => ?_) (fun h35 => ?_)
    · refine ax_load (q := 61) rfl rfl rfl rfl rfl ?_
      refine ax_ret (r := some (am_I ((o : Nat) : Int))) rfl rfl ?_
      rw [show dq_ T q (m + 1) o l = (o : Int) from if_pos (by omega)] at hQ
      exact hQ
    · refine ax_load (q := 39) rfl rfl rfl rfl rfl ?_
      refine ax_load (q := 40) rfl rfl rfl rfl rfl ?_
      refine ax_getf (q := 43) (v := am_R 158) rfl rfl (rfl) ?_
      refine ax_const (q := 45) (v := am_I 8) rfl rfl rfl ?_
      refine ax_load (q := 46) rfl rfl rfl rfl rfl ?_
      refine ax_imul (q := 47) (z := ((8 * q : Nat) : Int)) rfl rfl (am_we (by omega) (by omega) (by omega)) ?_
      refine ax_load (q := 49) rfl rfl rfl rfl rfl ?_
      refine ax_iadd (q := 50) (z := (((8 * q) + o : Nat) : Int)) rfl rfl (am_we (by omega) (by omega) (by omega)) ?_
      refine bx_iald (q := 51) (k := (8 * q) + o) (z := T 158 ((8 * q) + o)) rfl rfl (rfl) (by omega) (by omega) (congrFun hT.a158 _) ?_
      refine ax_isub (q := 52) (z := l - (T 158 ((8 * q) + o))) rfl rfl (am_we (by omega) (by omega) (by omega)) ?_
      refine ax_store (q := 53) (L' := [some (am_R 135), some (am_I ((q : Nat) : Int)), some (am_I x2), some (am_I (l - (T 158 ((8 * q) + o)))), some (am_I ((o : Nat) : Int))]) rfl rfl rfl rfl rfl rfl ?_
      refine ax_iinc (q := 56) (z' := ((o + 1 : Nat) : Int)) (L' := [some (am_R 135), some (am_I ((q : Nat) : Int)), some (am_I x2), some (am_I (l - (T 158 ((8 * q) + o)))), some (am_I ((o + 1 : Nat) : Int))]) rfl rfl rfl rfl (am_we (by omega) (by omega) (by omega)) rfl ?_
      refine ax_goto (x := 22) rfl ?_
      rw [show dq_ T q (m + 1) o l = dq_ T q m (o + 1) (l - T 158 (8 * q + o)) from if_neg (by omega)] at hQ
      exact ih (o + 1) (l - T 158 (8 * q + o)) (by omega) (by omega) (by show _ < _ - (su_ o (fun o => T 158 (8 * q + o)) + T 158 (8 * q + o)); omega) hQ

theorem m_drawOf {d : Nat} (hd : 2 ≤ d) {σ : am_S} {T : sp_T} (hT : TM_ T σ) (hV : TV_ T) {q : Nat} (hq : q < nR_ T) {s : Nat} (hs : σ.1 135 56 = (s : Int)) (hs9 : s < 1000) {Q : Option am_V → am_S → Prop} (hQ : Q (some (am_I (dr_ T q (s : Int)))) σ) : am_Ev d 185 [am_R 135, am_I ((q : Nat) : Int)] σ Q := by
  obtain ⟨d, rfl⟩ : ∃ e, d = e + 1 := ⟨d - 1, by omega⟩
  have hO := hV.nO
  have hab := al_bd hV hq
  obtain ⟨A, hA⟩ : ∃ A : Nat, al_ T q = (A : Int) := ⟨(al_ T q).toNat, by omega⟩
  refine ev_in (m := 185) (c := k_X9_drawOf) (L := [some (am_R 135), some (am_I ((q : Nat) : Int)), none, none, none]) rfl rfl rfl rfl rfl rfl ?_
  refine ax_load (q := 1) rfl rfl rfl rfl rfl ?_
  refine ax_load (q := 2) rfl rfl rfl rfl rfl ?_
  refine ax_callv (q := 5) rfl rfl rfl rfl rfl rfl ?_
  refine m_allOdds (by omega) hT hV hq ?_
  rw [hA]
  refine ax_store (q := 6) (L' := [some (am_R 135), some (am_I ((q : Nat) : Int)), some (am_I ((A : Nat) : Int)), none, none]) rfl rfl rfl rfl rfl rfl ?_
  refine ax_load (q := 7) rfl rfl rfl rfl rfl ?_
  refine ax_if_ne (q := 10) (x := 12) rfl rfl (fun h7 => ?_) (fun h7 => ?_)
  · refine ax_load (q := 13) rfl rfl rfl rfl rfl ?_
    refine ax_getf (q := 16) (v := am_I ((s : Nat) : Int)) rfl rfl (am_fg rfl hs) ?_
    refine ax_load (q := 17) rfl rfl rfl rfl rfl ?_
    refine ax_irem (q := 18) (z := (((s % A) : Nat) : Int)) rfl rfl (by omega) (am_rem_nat (by omega) (by omega) (by omega)) ?_
    refine ax_store (q := 19) (L' := [some (am_R 135), some (am_I ((q : Nat) : Int)), some (am_I ((A : Nat) : Int)), some (am_I (((s % A) : Nat) : Int)), none]) rfl rfl rfl rfl rfl rfl ?_
    refine ax_const (q := 20) (v := am_I 0) rfl rfl rfl ?_
    refine ax_store (q := 22) (L' := [some (am_R 135), some (am_I ((q : Nat) : Int)), some (am_I ((A : Nat) : Int)), some (am_I (((s % A) : Nat) : Int)), some (am_I 0)]) rfl rfl rfl rfl rfl rfl ?_
    have hml := Nat.mod_lt s (show 0 < A by omega)
    rw [show dr_ T q (s : Int) = dq_ T q (nO_ T) 0 (((s % A : Nat) : Int)) by unfold dr_; rw [if_neg (by omega), hA, am_rem_nat (by omega) (by omega) (by omega)]] at hQ
    refine l_drawOf hT hV hq (nO_ T) 0 _ (by omega) (by omega) (by show _ < _ - (0 : Int); unfold al_ at hA; omega) hQ
  · refine ax_const (q := 11) (v := am_I (-1)) rfl rfl rfl ?_
    refine ax_ret (r := some (am_I (-1))) rfl rfl ?_
    rw [show dr_ T q (s : Int) = -1 from if_pos (by omega)] at hQ
    exact hQ

/-! the tokens of the reference -/
theorem m_here0 {d : Nat} (hd : 1 ≤ d) {σ : am_S} {tp : Nat → Int} (h136 : σ.1 136 = tp) {n a : Nat} (hn : σ.1 135 5 = (n : Int)) (hat : σ.1 135 4 = (a : Int)) (hn9 : n ≤ 1600) (hak : a ≤ 100000) {Q : Option am_V → am_S → Prop} (hQ : Q (some (am_I (hr_ tp n a))) σ) : am_Ev d 142 [am_R 135, am_I 0] σ Q := m_here (k := 0) hd h136 hn hat hn9 hak hQ
theorem sL_at (σ : am_S) (a : Nat) (f : Nat → Int) : (am_sL σ a f).2.1 a = f := am_up_same _ _ _
theorem sL_ne {σ : am_S} {a b : Nat} {f : Nat → Int} (h : b ≠ a) : (am_sL σ a f).2.1 b = σ.2.1 b := am_up_ne h
theorem sL_1 (σ : am_S) (a : Nat) (f : Nat → Int) : (am_sL σ a f).1 = σ.1 := rfl
theorem sL_id (σ : am_S) (a : Nat) : am_sL σ a (σ.2.1 a) = σ := by
  refine Prod.ext rfl (Prod.ext (funext fun b => ?_) rfl)
  by_cases h : b = a
  · subst h; exact sL_at _ _ _
  · exact sL_ne h
theorem sL_sL (σ : am_S) (a : Nat) (f g : Nat → Int) : am_sL (am_sL σ a f) a g = am_sL σ a g := by
  refine Prod.ext rfl (Prod.ext (funext fun b => ?_) rfl)
  by_cases h : b = a
  · subst h; rw [sL_at, sL_at]
  · rw [sL_ne h, sL_ne h, sL_ne h]
/-- frames of the parser: int rows A, fields F of 135, long rows B may change -/
def fp_ (A F B : List Nat) (σ σ' : am_S) : Prop := (∀ a, a ∉ A → a ≠ 135 → σ'.1 a = σ.1 a) ∧ (∀ k, k ∉ F → σ'.1 135 k = σ.1 135 k) ∧ (∀ a, a ∉ B → a ≠ 135 → σ'.2.1 a = σ.2.1 a) ∧ (∀ k, k ∉ F → σ'.2.1 135 k = σ.2.1 135 k) ∧ σ'.2.2 = σ.2.2
theorem fp_rf (A F B : List Nat) (σ : am_S) : fp_ A F B σ σ := ⟨fun _ _ _ => rfl, fun _ _ => rfl, fun _ _ _ => rfl, fun _ _ => rfl, rfl⟩
theorem fp_tr {A F B A' F' B' : List Nat} {σ σ1 σ2 : am_S} (h1 : fp_ A F B σ σ1) (h2 : fp_ A' F' B' σ1 σ2) (hA : ∀ a, a ∈ A' → a ∈ A) (hF : ∀ a, a ∈ F' → a ∈ F) (hB : ∀ a, a ∈ B' → a ∈ B) : fp_ A F B σ σ2 :=
  ⟨fun b hb h9 => by rw [h2.1 b (fun q => hb (hA b q)) h9, h1.1 b hb h9], fun k hk => by rw [h2.2.1 k (fun q => hk (hF k q)), h1.2.1 k hk], fun b hb h9 => by rw [h2.2.2.1 b (fun q => hb (hB b q)) h9, h1.2.2.1 b hb h9], fun k hk => by rw [h2.2.2.2.1 k (fun q => hk (hF k q)), h1.2.2.2.1 k hk], by rw [h2.2.2.2.2, h1.2.2.2.2]⟩
theorem fp_s5 {A F B : List Nat} {σ σ' : am_S} {k : Nat} {z : Int} (h : fp_ A F B σ σ') (hk : k ∈ F) : fp_ A F B σ (am_sI σ' 135 (am_up (σ'.1 135) k z)) :=
  ⟨fun b hb h9 => by rw [sI_ne h9]; exact h.1 b hb h9, fun j hj => by rw [sI_at, am_up_ne (fun q => hj (by rw [q]; exact hk))]; exact h.2.1 j hj, h.2.2.1, h.2.2.2.1, h.2.2.2.2⟩
theorem fp_l5 {A F B : List Nat} {σ σ' : am_S} {k : Nat} {z : Int} (h : fp_ A F B σ σ') (hk : k ∈ F) : fp_ A F B σ (am_sL σ' 135 (am_up (σ'.2.1 135) k z)) :=
  ⟨h.1, h.2.1, fun b hb h9 => by rw [sL_ne h9]; exact h.2.2.1 b hb h9, fun j hj => by rw [sL_at, am_up_ne (fun q => hj (by rw [q]; exact hk))]; exact h.2.2.2.1 j hj, h.2.2.2.2⟩
theorem fp_sI {A F B : List Nat} {σ σ' : am_S} {a : Nat} {f : Nat → Int} (h : fp_ A F B σ σ') (ha : a ∈ A) (h5 : 135 ≠ a) : fp_ A F B σ (am_sI σ' a f) :=
  ⟨fun b hb h9 => by rw [sI_ne (fun q => hb (by rw [q]; exact ha))]; exact h.1 b hb h9, fun k hk => by rw [sI_ne h5]; exact h.2.1 k hk, h.2.2.1, h.2.2.2.1, h.2.2.2.2⟩
theorem fp_sL {A F B : List Nat} {σ σ' : am_S} {a : Nat} {f : Nat → Int} (h : fp_ A F B σ σ') (ha : a ∈ B) (h5 : 135 ≠ a) : fp_ A F B σ (am_sL σ' a f) :=
  ⟨h.1, h.2.1, fun b hb h9 => by rw [sL_ne (fun q => hb (by rw [q]; exact ha))]; exact h.2.2.1 b hb h9, fun k hk => by rw [sL_ne h5]; exact h.2.2.2.1 k hk, h.2.2.2.2⟩
/-- behind the blanks -/
def skp_ (tp : Nat → Int) (n : Nat) : Nat → Nat → Nat
  | 0, a => a
  | m + 1, a => if hr_ tp n a = 32 ∨ hr_ tp n a = 10 then skp_ tp n m (a + 1) else a
/-- how many of a kind stand from a on -/
def rl_ (p : Int → Bool) (tp : Nat → Int) (n : Nat) : Nat → Nat → Nat
  | 0, _ => 0
  | m + 1, a => if p (hr_ tp n a) then rl_ p tp n m (a + 1) + 1 else 0
def wdv_ (tp : Nat → Int) (n a : Nat) : Nat → Int
  | 0 => 0
  | k + 1 => if k < 8 then am_lor (am_lshl (wdv_ tp n a k) 8) (hr_ tp n (a + k)) else wdv_ tp n a k
def nv_ (tp : Nat → Int) (n a : Nat) : Nat → Int
  | 0 => 0
  | k + 1 => if k < 4 then 10 * nv_ tp n a k + hr_ tp n (a + k) - 48 else nv_ tp n a k
def tkl_ (tp : Nat → Int) (n p : Nat) : Nat := if hr_ tp n p < 0 then 0 else if lt_ (hr_ tp n p) then rl_ lt_ tp n (n - p) p else if dt_ (hr_ tp n p) then rl_ dt_ tp n (n - p) p else 1
def tks_ (tp : Nat → Int) (n p : Nat) : Int := if hr_ tp n p < 0 then 0 else if lt_ (hr_ tp n p) then (if 8 < tkl_ tp n p then 3 else 1) else if dt_ (hr_ tp n p) then (if decide (4 < tkl_ tp n p) || lt_ (hr_ tp n (p + tkl_ tp n p)) then 3 else 2) else if si_ (hr_ tp n p) then hr_ tp n p else 3
def tkn_ (tp : Nat → Int) (n p : Nat) : Int := if hr_ tp n p < 0 then 0 else if lt_ (hr_ tp n p) then 0 else if dt_ (hr_ tp n p) then nv_ tp n p (tkl_ tp n p) else 0
def tkw_ (tp : Nat → Int) (n p : Nat) : Int := if hr_ tp n p < 0 then 0 else if lt_ (hr_ tp n p) then wdv_ tp n p (tkl_ tp n p) else 0
def tka_ (tp : Nat → Int) (n p : Nat) : Nat := if tks_ tp n p = 3 then p else p + tkl_ tp n p
/-- the reference stands at the token that begins at p -/
def TK_ (tp : Nat → Int) (n p : Nat) (σ : am_S) : Prop := σ.1 135 4 = (tka_ tp n p : Int) ∧ σ.1 135 6 = tks_ tp n p ∧ σ.1 135 7 = (p : Int) ∧ σ.1 135 8 = tkn_ tp n p ∧ σ.2.1 135 9 = tkw_ tp n p
theorem rl_le (p : Int → Bool) (tp : Nat → Int) (n : Nat) : ∀ m a, rl_ p tp n m a ≤ m
  | 0, _ => Nat.le_refl _
  | m + 1, a => by
    have := rl_le p tp n m (a + 1)
    unfold rl_
    split <;> omega
theorem skp_le (tp : Nat → Int) (n : Nat) : ∀ m a, a ≤ skp_ tp n m a ∧ skp_ tp n m a ≤ a + m
  | 0, _ => ⟨Nat.le_refl _, Nat.le_refl _⟩
  | m + 1, a => by
    have := skp_le tp n m (a + 1)
    unfold skp_
    split <;> omega
theorem nv_bd {tp : Nat → Int} {n a : Nat} : ∀ k, (∀ j, j < k → dt_ (hr_ tp n (a + j)) = true) → 0 ≤ nv_ tp n a k ∧ nv_ tp n a k ≤ (if k = 0 then 0 else if k = 1 then 9 else if k = 2 then 99 else if k = 3 then 999 else 9999)
  | 0, _ => ⟨Int.le_refl _, Int.le_refl _⟩
  | k + 1, h => by
    have ih := nv_bd k (fun j hj => h j (by omega))
    have h1 := of_decide_eq_true (h k (by omega))
    unfold nv_
    split
    · rcases (show k = 0 ∨ k = 1 ∨ k = 2 ∨ k = 3 by omega) with rfl | rfl | rfl | rfl <;> (try simp only [Nat.add_zero] at h1) <;> simp at ih ⊢ <;> omega
    · rw [if_neg (by omega), if_neg (by omega), if_neg (by omega), if_neg (by omega)]
      have : nv_ tp n a k ≤ 9999 := by
        refine Int.le_trans ih.2 ?_
        split
        · omega
        · split
          · omega
          · split
            · omega
            · split <;> omega
      exact ⟨ih.1, this⟩

theorem l_tok1 {d : Nat} (hd : 1 ≤ d) {σ : am_S} {tp : Nat → Int} (h136 : σ.1 136 = tp) {n : Nat} (hn : σ.1 135 5 = (n : Int)) (hn9 : n ≤ 1600) {Q : Option am_V → am_S → Prop} : ∀ (m a : Nat), a + m = n → (hQ : aW d 4 k_X9_token Q 33 [some (am_R 135), none, none] [] (am_sI σ 135 (am_up (σ.1 135) 4 ((skp_ tp n m a : Nat) : Int)))) → aW d 4 k_X9_token Q 0 [some (am_R 135), none, none] [] (am_sI σ 135 (am_up (σ.1 135) 4 ((a : Nat) : Int))) := by
  intro m
  induction m with
  | zero =>
    intro a ha hQ
    have hneg : hr_ tp n a = -1 := if_neg (by omega)
    refine ax_load (q := 1) rfl rfl rfl rfl rfl ?_
    refine ax_const (q := 2) (v := am_I 0) rfl rfl rfl ?_
    refine ax_callv (q := 5) rfl rfl rfl rfl rfl rfl ?_
    refine m_here0 (tp := tp) (n := n) (a := a) (by omega) ((sI_ne (by decide)).trans h136) (by rw [sI_at, am_up_ne (by decide)]; exact hn) (by rw [sI_at, am_up_same]) hn9 (by omega) ?_
    refine ax_const (q := 7) (v := am_I 32) rfl rfl rfl ?_
    refine ax_icmp_eq (q := 10) (x := 20) rfl rfl (fun h => absurd h (by rw [hneg]; decide)) (fun h7 => ?_)
    refine ax_load (q := 11) rfl rfl rfl rfl rfl ?_
    refine ax_const (q := 12) (v := am_I 0) rfl rfl rfl ?_
    refine ax_callv (q := 15) rfl rfl rfl rfl rfl rfl ?_
    refine m_here0 (tp := tp) (n := n) (a := a) (by omega) ((sI_ne (by decide)).trans h136) (by rw [sI_at, am_up_ne (by decide)]; exact hn) (by rw [sI_at, am_up_same]) hn9 (by omega) ?_
    refine ax_const (q := 17) (v := am_I 10) rfl rfl rfl ?_
    refine ax_icmp_ne (q := 20) (x := 33) rfl rfl (fun h17 => ?_) (fun h => absurd h (by rw [hneg]; decide))
    exact hQ
  | succ m ih =>
    intro a ha hQ
    refine ax_load (q := 1) rfl rfl rfl rfl rfl ?_
    refine ax_const (q := 2) (v := am_I 0) rfl rfl rfl ?_
    refine ax_callv (q := 5) rfl rfl rfl rfl rfl rfl ?_
    refine m_here0 (tp := tp) (n := n) (a := a) (by omega) ((sI_ne (by decide)).trans h136) (by rw [sI_at, am_up_ne (by decide)]; exact hn) (by rw [sI_at, am_up_same]) hn9 (by omega) ?_
    refine ax_const (q := 7) (v := am_I 32) rfl rfl rfl ?_
    refine ax_icmp_eq (q := 10) (x := 20) rfl rfl (fun h7 => ?_) (fun h7 => ?_)
    · refine ax_load (q := 21) rfl rfl rfl rfl rfl ?_
      refine ax_dup (q := 22) rfl rfl rfl ?_
      refine ax_getf (q := 25) (v := am_I ((a : Nat) : Int)) rfl rfl (am_fg rfl (by rw [sI_at, am_up_same])) ?_
      refine ax_const (q := 26) (v := am_I 1) rfl rfl rfl ?_
      refine ax_iadd (q := 27) (z := ((a + 1 : Nat) : Int)) rfl rfl (am_we (by omega) (by omega) (by omega)) ?_
      refine ax_putf (q := 30) rfl rfl rfl ?_
      refine ax_goto (x := 0) rfl ?_
      rw [show skp_ tp n (m + 1) a = skp_ tp n m (a + 1) from if_pos (by omega)] at hQ
      rw [sI_sI, sI_at, up_up]
      exact ih (a + 1) (by omega) hQ
    · refine ax_load (q := 11) rfl rfl rfl rfl rfl ?_
      refine ax_const (q := 12) (v := am_I 0) rfl rfl rfl ?_
      refine ax_callv (q := 15) rfl rfl rfl rfl rfl rfl ?_
      refine m_here0 (tp := tp) (n := n) (a := a) (by omega) ((sI_ne (by decide)).trans h136) (by rw [sI_at, am_up_ne (by decide)]; exact hn) (by rw [sI_at, am_up_same]) hn9 (by omega) ?_
      refine ax_const (q := 17) (v := am_I 10) rfl rfl rfl ?_
      refine ax_icmp_ne (q := 20) (x := 33) rfl rfl (fun h17 => ?_) (fun h17 => ?_)
      · rw [show skp_ tp n (m + 1) a = a from if_neg (by omega)] at hQ
        exact hQ
      · refine ax_load (q := 21) rfl rfl rfl rfl rfl ?_
        refine ax_dup (q := 22) rfl rfl rfl ?_
        refine ax_getf (q := 25) (v := am_I ((a : Nat) : Int)) rfl rfl (am_fg rfl (by rw [sI_at, am_up_same])) ?_
        refine ax_const (q := 26) (v := am_I 1) rfl rfl rfl ?_
        refine ax_iadd (q := 27) (z := ((a + 1 : Nat) : Int)) rfl rfl (am_we (by omega) (by omega) (by omega)) ?_
        refine ax_putf (q := 30) rfl rfl rfl ?_
        refine ax_goto (x := 0) rfl ?_
        rw [show skp_ tp n (m + 1) a = skp_ tp n m (a + 1) from if_pos (by omega)] at hQ
        rw [sI_sI, sI_at, up_up]
        exact ih (a + 1) (by omega) hQ

theorem l_tok2 {d : Nat} (hd : 1 ≤ d) {σ : am_S} {tp : Nat → Int} (h136 : σ.1 136 = tp) {n : Nat} (hn : σ.1 135 5 = (n : Int)) (hn9 : n ≤ 1600) {p : Nat} (hp : σ.1 135 4 = (p : Int)) (hpn : p ≤ n) {c : Int} {Q : Option am_V → am_S → Prop} : ∀ (m k : Nat), p + k + m = n → (hQ : aW d 4 k_X9_token Q 119 [some (am_R 135), some (am_I c), some (am_I ((k + rl_ lt_ tp n m (p + k) : Nat) : Int))] [] (am_sL σ 135 (am_up (σ.2.1 135) 9 (wdv_ tp n p (k + rl_ lt_ tp n m (p + k)))))) → aW d 4 k_X9_token Q 78 [some (am_R 135), some (am_I c), some (am_I ((k : Nat) : Int))] [] (am_sL σ 135 (am_up (σ.2.1 135) 9 (wdv_ tp n p k))) := by
  intro m
  induction m with
  | zero =>
    intro k hk hQ
    have hneg : lt_ (hr_ tp n (p + k)) = false := by unfold hr_; rw [if_neg (by omega)]; rfl
    refine ax_load (q := 79) rfl rfl rfl rfl rfl ?_
    refine ax_load (q := 80) rfl rfl rfl rfl rfl ?_
    refine ax_callv (q := 83) rfl rfl rfl rfl rfl rfl ?_
    refine m_here (σ := (am_sL σ 135 (am_up (σ.2.1 135) 9 (wdv_ tp n p k)))) (tp := tp) (n := n) (a := p) (k := k) (by omega) h136 hn hp hn9 (by omega) ?_
    refine ax_calls (q := 86) rfl rfl rfl rfl rfl ?_
    refine m_isLetter (by omega) ?_
    refine ax_if_eq (q := 89) (x := 119) rfl rfl (fun h86 => ?_) (fun h => absurd (by rw [hneg]; rfl) h)
    exact hQ
  | succ m ih =>
    intro k hk hQ
    refine ax_load (q := 79) rfl rfl rfl rfl rfl ?_
    refine ax_load (q := 80) rfl rfl rfl rfl rfl ?_
    refine ax_callv (q := 83) rfl rfl rfl rfl rfl rfl ?_
    refine m_here (σ := (am_sL σ 135 (am_up (σ.2.1 135) 9 (wdv_ tp n p k)))) (tp := tp) (n := n) (a := p) (k := k) (by omega) h136 hn hp hn9 (by omega) ?_
    refine ax_calls (q := 86) rfl rfl rfl rfl rfl ?_
    refine m_isLetter (by omega) ?_
    refine ax_if_eq (q := 89) (x := 119) rfl rfl (fun h86 => ?_) (fun h86 => ?_)
    · have hb86 := it_0 h86
      rw [show rl_ lt_ tp n (m + 1) (p + k) = 0 from if_neg (by rw [hb86]; decide)] at hQ
      exact hQ
    · have hb86 := it_n0 h86
      refine ax_load (q := 90) rfl rfl rfl rfl rfl ?_
      refine ax_const (q := 92) (v := am_I 8) rfl rfl rfl ?_
      refine ax_icmp_ge (q := 95) (x := 113) rfl rfl (fun h92 => ?_) (fun h92 => ?_)
      · refine ax_iinc (q := 116) (z' := ((k + 1 : Nat) : Int)) (L' := [some (am_R 135), some (am_I c), some (am_I ((k + 1 : Nat) : Int))]) rfl rfl rfl rfl (am_we (by omega) (by omega) (by omega)) rfl ?_
        refine ax_goto (x := 78) rfl ?_
        rw [show rl_ lt_ tp n (m + 1) (p + k) = rl_ lt_ tp n m (p + k + 1) + 1 from if_pos hb86] at hQ
        have e : wdv_ tp n p (k + 1) = wdv_ tp n p k := if_neg (by omega)
        have g := ih (k + 1) (by omega) (by rw [show p + (k + 1) = p + k + 1 by omega, show k + 1 + rl_ lt_ tp n m (p + k + 1) = k + (rl_ lt_ tp n m (p + k + 1) + 1) by omega]; exact hQ)
        rw [e] at g
        exact g
      · refine ax_load (q := 96) rfl rfl rfl rfl rfl ?_
        refine ax_load (q := 97) rfl rfl rfl rfl rfl ?_
        refine ax_getf (q := 100) (v := am_J (wdv_ tp n p k)) rfl rfl (am_fgJ rfl (by rw [sL_at, am_up_same])) ?_
        refine ax_const (q := 102) (v := am_I 8) rfl rfl rfl ?_
        refine ax_lshl (q := 103) rfl rfl ?_
        refine ax_load (q := 104) rfl rfl rfl rfl rfl ?_
        refine ax_load (q := 105) rfl rfl rfl rfl rfl ?_
        refine ax_callv (q := 108) rfl rfl rfl rfl rfl rfl ?_
        refine m_here (σ := (am_sL σ 135 (am_up (σ.2.1 135) 9 (wdv_ tp n p k)))) (tp := tp) (n := n) (a := p) (k := k) (by omega) h136 hn hp hn9 (by omega) ?_
        refine ax_i2l (q := 109) rfl rfl ?_
        refine ax_lor (q := 110) rfl rfl ?_
        refine ax_putf (q := 113) rfl rfl rfl ?_
        refine ax_iinc (q := 116) (z' := ((k + 1 : Nat) : Int)) (L' := [some (am_R 135), some (am_I c), some (am_I ((k + 1 : Nat) : Int))]) rfl rfl rfl rfl (am_we (by omega) (by omega) (by omega)) rfl ?_
        refine ax_goto (x := 78) rfl ?_
        rw [show rl_ lt_ tp n (m + 1) (p + k) = rl_ lt_ tp n m (p + k + 1) + 1 from if_pos hb86] at hQ
        have e : wdv_ tp n p (k + 1) = am_lor (am_lshl (wdv_ tp n p k) 8) (hr_ tp n (p + k)) := if_pos (by omega)
        have g := ih (k + 1) (by omega) (by rw [show p + (k + 1) = p + k + 1 by omega, show k + 1 + rl_ lt_ tp n m (p + k + 1) = k + (rl_ lt_ tp n m (p + k + 1) + 1) by omega]; exact hQ)
        rw [e] at g
        rw [sL_sL, sL_at, up_up]
        exact g

theorem l_tok3 {d : Nat} (hd : 1 ≤ d) {σ : am_S} {tp : Nat → Int} (h136 : σ.1 136 = tp) {n : Nat} (hn : σ.1 135 5 = (n : Int)) (hn9 : n ≤ 1600) {p : Nat} (hp : σ.1 135 4 = (p : Int)) (hpn : p ≤ n) {c : Int} {Q : Option am_V → am_S → Prop} : ∀ (m k : Nat), p + k + m = n → (∀ j, j < k → dt_ (hr_ tp n (p + j)) = true) → (hQ : aW d 4 k_X9_token Q 186 [some (am_R 135), some (am_I c), some (am_I ((k + rl_ dt_ tp n m (p + k) : Nat) : Int))] [] (am_sI σ 135 (am_up (σ.1 135) 8 (nv_ tp n p (k + rl_ dt_ tp n m (p + k)))))) → aW d 4 k_X9_token Q 144 [some (am_R 135), some (am_I c), some (am_I ((k : Nat) : Int))] [] (am_sI σ 135 (am_up (σ.1 135) 8 (nv_ tp n p k))) := by
  intro m
  induction m with
  | zero =>
    intro k hk hdt hQ
    have hneg : dt_ (hr_ tp n (p + k)) = false := by unfold hr_; rw [if_neg (by omega)]; rfl
    refine ax_load (q := 145) rfl rfl rfl rfl rfl ?_
    refine ax_load (q := 146) rfl rfl rfl rfl rfl ?_
    refine ax_callv (q := 149) rfl rfl rfl rfl rfl rfl ?_
    refine m_here (tp := tp) (n := n) (a := p) (k := k) (by omega) ((sI_ne (by decide)).trans h136) (by rw [sI_at, am_up_ne (by decide)]; exact hn) (by rw [sI_at, am_up_ne (by decide)]; exact hp) hn9 (by omega) ?_
    refine ax_calls (q := 152) rfl rfl rfl rfl rfl ?_
    refine m_isDigit (by omega) ?_
    refine ax_if_eq (q := 155) (x := 186) rfl rfl (fun h152 => ?_) (fun h => absurd (by rw [hneg]; rfl) h)
    exact hQ
  | succ m ih =>
    intro k hk hdt hQ
    have hnb := nv_bd (tp := tp) (n := n) (a := p) k hdt
    have hnb9 : nv_ tp n p k ≤ 9999 := by refine Int.le_trans hnb.2 ?_; (repeat' split) <;> omega
    refine ax_load (q := 145) rfl rfl rfl rfl rfl ?_
    refine ax_load (q := 146) rfl rfl rfl rfl rfl ?_
    refine ax_callv (q := 149) rfl rfl rfl rfl rfl rfl ?_
    refine m_here (tp := tp) (n := n) (a := p) (k := k) (by omega) ((sI_ne (by decide)).trans h136) (by rw [sI_at, am_up_ne (by decide)]; exact hn) (by rw [sI_at, am_up_ne (by decide)]; exact hp) hn9 (by omega) ?_
    refine ax_calls (q := 152) rfl rfl rfl rfl rfl ?_
    refine m_isDigit (by omega) ?_
    refine ax_if_eq (q := 155) (x := 186) rfl rfl (fun h152 => ?_) (fun h152 => ?_)
    · have hb152 := it_0 h152
      rw [show rl_ dt_ tp n (m + 1) (p + k) = 0 from if_neg (by rw [hb152]; decide)] at hQ
      exact hQ
    · have hb152 := it_n0 h152
      have hdv := of_decide_eq_true hb152
      refine ax_load (q := 156) rfl rfl rfl rfl rfl ?_
      refine ax_const (q := 157) (v := am_I 4) rfl rfl rfl ?_
      refine ax_icmp_ge (q := 160) (x := 180) rfl rfl (fun h157 => ?_) (fun h157 => ?_)
      · refine ax_iinc (q := 183) (z' := ((k + 1 : Nat) : Int)) (L' := [some (am_R 135), some (am_I c), some (am_I ((k + 1 : Nat) : Int))]) rfl rfl rfl rfl (am_we (by omega) (by omega) (by omega)) rfl ?_
        refine ax_goto (x := 144) rfl ?_
        rw [show rl_ dt_ tp n (m + 1) (p + k) = rl_ dt_ tp n m (p + k + 1) + 1 from if_pos hb152] at hQ
        have e : nv_ tp n p (k + 1) = nv_ tp n p k := if_neg (by omega)
        have g := ih (k + 1) (by omega) (fun j hj => by by_cases q : j = k; (rw [q]; exact hb152); exact hdt j (by omega)) (by rw [show p + (k + 1) = p + k + 1 by omega, show k + 1 + rl_ dt_ tp n m (p + k + 1) = k + (rl_ dt_ tp n m (p + k + 1) + 1) by omega]; exact hQ)
        rw [e] at g
        exact g
      · refine ax_load (q := 161) rfl rfl rfl rfl rfl ?_
        refine ax_const (q := 163) (v := am_I 10) rfl rfl rfl ?_
        refine ax_load (q := 164) rfl rfl rfl rfl rfl ?_
        refine ax_getf (q := 167) (v := am_I (nv_ tp n p k)) rfl rfl (am_fg rfl (by rw [sI_at, am_up_same])) ?_
        refine ax_imul (q := 168) (z := 10 * (nv_ tp n p k)) rfl rfl (am_we (by omega) (by omega) (by omega)) ?_
        refine ax_load (q := 169) rfl rfl rfl rfl rfl ?_
        refine ax_load (q := 170) rfl rfl rfl rfl rfl ?_
        refine ax_callv (q := 173) rfl rfl rfl rfl rfl rfl ?_
        refine m_here (tp := tp) (n := n) (a := p) (k := k) (by omega) ((sI_ne (by decide)).trans h136) (by rw [sI_at, am_up_ne (by decide)]; exact hn) (by rw [sI_at, am_up_ne (by decide)]; exact hp) hn9 (by omega) ?_
        refine ax_iadd (q := 174) (z := 10 * (nv_ tp n p k) + (hr_ tp n (p + k))) rfl rfl (am_we (by omega) (by omega) (by omega)) ?_
        refine ax_const (q := 176) (v := am_I 48) rfl rfl rfl ?_
        refine ax_isub (q := 177) (z := 10 * (nv_ tp n p k) + (hr_ tp n (p + k)) - 48) rfl rfl (am_we (by omega) (by omega) (by omega)) ?_
        refine ax_putf (q := 180) rfl rfl rfl ?_
        refine ax_iinc (q := 183) (z' := ((k + 1 : Nat) : Int)) (L' := [some (am_R 135), some (am_I c), some (am_I ((k + 1 : Nat) : Int))]) rfl rfl rfl rfl (am_we (by omega) (by omega) (by omega)) rfl ?_
        refine ax_goto (x := 144) rfl ?_
        rw [show rl_ dt_ tp n (m + 1) (p + k) = rl_ dt_ tp n m (p + k + 1) + 1 from if_pos hb152] at hQ
        have e : nv_ tp n p (k + 1) = 10 * nv_ tp n p k + hr_ tp n (p + k) - 48 := if_pos (by omega)
        have g := ih (k + 1) (by omega) (fun j hj => by by_cases q : j = k; (rw [q]; exact hb152); exact hdt j (by omega)) (by rw [show p + (k + 1) = p + k + 1 by omega, show k + 1 + rl_ dt_ tp n m (p + k + 1) = k + (rl_ dt_ tp n m (p + k + 1) + 1) by omega]; exact hQ)
        rw [e] at g
        rw [sI_sI, sI_at, up_up]
        exact g

