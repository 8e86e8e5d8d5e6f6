theorem hs_i {n : Nat} {a : Int} : (if 0 ≤ a ∧ a < (n : Int) then (1 : Int) else 0) = (if inr_ n a then 1 else 0) := by unfold inr_; simp
/-- what a call of the class changes: the places A, and the trial's town -/
def xf_ (A : List Nat) (σ σ' : am_S) : Prop := (∀ a, a ∉ A → σ'.1 a = σ.1 a) ∧ σ'.2.1 = σ.2.1 ∧ (∀ a k, ¬ (a = 70 ∧ k = 1) → σ'.2.2.1 a k = σ.2.2.1 a k) ∧ σ'.2.2.2 = σ.2.2.2
theorem xf_rf (A : List Nat) (σ : am_S) : xf_ A σ σ := ⟨fun _ _ => rfl, rfl, fun _ _ _ => rfl, rfl⟩
theorem xf_tr {A B : List Nat} {σ σ1 σ2 : am_S} (h1 : xf_ A σ σ1) (h2 : xf_ B σ1 σ2) (h : ∀ a, a ∈ B → a ∈ A) : xf_ A σ σ2 := ⟨fun a ha => by rw [h2.1 a (fun q => ha (h a q)), h1.1 a ha], h2.2.1.trans h1.2.1, fun a k hk => (h2.2.2.1 a k hk).trans (h1.2.2.1 a k hk), h2.2.2.2.trans h1.2.2.2⟩
theorem xf_fr {A B : List Nat} {σ σ' : am_S} (h : fr_ A σ σ') (hs : ∀ a, a ∈ A → a ∈ B) : xf_ B σ σ' := ⟨fun a ha => h.1 a (fun q => ha (hs a q)), by rw [h.2], fun a k _ => by rw [h.2], by rw [h.2]⟩
theorem PL_.xf {t : Nat} {T : sp_T} {v : sp_V} {σ σ' : am_S} (h : PL_ 68 t T v σ) {A : List Nat} (hf : xf_ A σ σ') (hl : ∀ a, a ∈ A → (a < t ∨ t + 30 < a) ∧ a ≠ 69) : PL_ 68 t T v σ' :=
  ⟨h.hq, by rw [hf.2.2.1 68 1 (by omega)]; exact h.to, h.xt.fr (fun a h1 h2 => hf.1 a (fun w => by have := (hl a w).1; omega)), by rw [hf.1 69 (fun w => (hl _ w).2 rfl)]; exact h.rw⟩
theorem bi_and (f g : Nat → Bool) (n : Nat) : bi_ n f &&& bi_ n g = bi_ n (fun p => g p && f p) := by
  apply Nat.eq_of_testBit_eq
  intro u
  rw [Nat.testBit_and, bi_tb, bi_tb, bi_tb]
  by_cases q : u < n
  · simp [q, Bool.and_comm]
  · simp [q]

theorem x_isUnopened {d : Nat} (hd : 2 ≤ d) {σ : am_S} {t : Nat} {T : sp_T} {v : sp_V} (hL : PL_ 68 t T v σ) (hV : TV_ T) {a : Int} {Q : Option am_V → am_S → Prop} (hQ : Q (some (am_I (if sn_ T v a then 1 else 0))) σ) : am_Ev d 103 [am_R 0, am_I a] σ Q := by
  obtain ⟨d, rfl⟩ : ∃ e, d = e + 1 := ⟨d - 1, by omega⟩
  have h6 := hV.nP
  have hO8 := hV.nO
  have hS4 := hV.nS
  have hR3 := hV.nR
  refine ev_in (m := 103) (c := k_X8_isUnopened) (L := [some (am_R 0), some (am_I a)]) rfl rfl rfl rfl rfl rfl ?_
  refine ax_load (q := 1) rfl rfl rfl rfl rfl ?_
  refine ax_getf (q := 4) (v := am_R 68) rfl rfl (rfl) ?_
  refine ax_getf (q := 7) (v := am_R t) rfl rfl (am_fgR rfl hL.to) ?_
  refine ax_const (q := 8) (v := am_I 0) rfl rfl rfl ?_
  refine ax_load (q := 9) rfl rfl rfl rfl rfl ?_
  refine ax_callv (q := 12) rfl rfl rfl rfl rfl (kd_0 hL.ht) ?_
  refine x_has0 (by omega) hL.xt hV ?_
  rw [hs_i]
  refine ax_if_eq (q := 15) (x := 30) rfl rfl (fun h12 => ?_) (fun h12 => ?_)
  · have hb12 := it_0 h12
    refine ax_const (q := 31) (v := am_I 0) rfl rfl rfl ?_
    refine ax_ret (r := some (am_I 0)) rfl ⟨rfl, Or.inl rfl⟩ ?_
    have e : sn_ T v a = false := by unfold sn_; unfold inr_ at *; simp [*]
    rw [e] at hQ
    exact hQ
  · have hb12 := it_n0 h12
    obtain ⟨p, rfl, hp⟩ := inr_t hb12
    refine ax_load (q := 16) rfl rfl rfl rfl rfl ?_
    refine ax_getf (q := 19) (v := am_R 68) rfl rfl (rfl) ?_
    refine ax_load (q := 20) rfl rfl rfl rfl rfl ?_
    refine ax_callv (q := 23) rfl rfl rfl rfl rfl rfl ?_
    refine x_isOpened (by omega) hL hV hp ?_
    refine ax_if_ne (q := 26) (x := 30) rfl rfl (fun h23 => ?_) (fun h23 => ?_)
    · have hb23 := nt_n0 h23
      refine ax_const (q := 31) (v := am_I 0) rfl rfl rfl ?_
      refine ax_ret (r := some (am_I 0)) rfl ⟨rfl, Or.inl rfl⟩ ?_
      have e : sn_ T v ((p : Nat) : Int) = false := by unfold sn_; unfold inr_ at *; simp [*]
      rw [e] at hQ
      exact hQ
    · have hb23 := nt_0 h23
      refine ax_const (q := 27) (v := am_I 1) rfl rfl rfl ?_
      refine ax_goto (x := 31) rfl ?_
      refine ax_ret (r := some (am_I 1)) rfl ⟨rfl, Or.inr rfl⟩ ?_
      have e : sn_ T v ((p : Nat) : Int) = true := by unfold sn_; unfold inr_ at *; simp [*]
      rw [e] at hQ
      exact hQ

theorem x_person {d : Nat} (hd : 4 ≤ d) {σ : am_S} {t : Nat} {T : sp_T} {v : sp_V} (hL : PL_ 68 t T v σ) (hV : TV_ T) {a k : Int} {Q : Option am_V → am_S → Prop} (hQ : Q (some (am_I (F_person T v a k))) σ) : am_Ev d 97 [am_R 0, am_I a, am_I k] σ Q := by
  obtain ⟨d, rfl⟩ : ∃ e, d = e + 1 := ⟨d - 1, by omega⟩
  have h6 := hV.nP
  have hO8 := hV.nO
  have hS4 := hV.nS
  have hR3 := hV.nR
  refine ev_in (m := 97) (c := k_X8_person) (L := [some (am_R 0), some (am_I a), some (am_I k)]) rfl rfl rfl rfl rfl rfl ?_
  refine ax_load (q := 1) rfl rfl rfl rfl rfl ?_
  refine ax_getf (q := 4) (v := am_R 68) rfl rfl (rfl) ?_
  refine ax_getf (q := 7) (v := am_R t) rfl rfl (am_fgR rfl hL.to) ?_
  refine ax_const (q := 8) (v := am_I 0) rfl rfl rfl ?_
  refine ax_load (q := 9) rfl rfl rfl rfl rfl ?_
  refine ax_callv (q := 12) rfl rfl rfl rfl rfl (kd_0 hL.ht) ?_
  refine x_has0 (by omega) hL.xt hV ?_
  rw [hs_i]
  refine ax_if_ne (q := 15) (x := 18) rfl rfl (fun h12 => ?_) (fun h12 => ?_)
  · have hb12 := it_n0 h12
    obtain ⟨p, rfl, hp⟩ := inr_t hb12
    refine ax_load (q := 19) rfl rfl rfl rfl rfl ?_
    by_cases hk : k = 0 ∨ k = 1 ∨ k = 2 ∨ k = 3 ∨ k = 4 ∨ k = 5
    rcases hk with rfl | rfl | rfl | rfl | rfl | rfl
    · refine ax_tsw (q := 56) rfl (by decide) ?_
      refine ax_load (q := 57) rfl rfl rfl rfl rfl ?_
      refine ax_getf (q := 60) (v := am_R 68) rfl rfl (rfl) ?_
      refine ax_getf (q := 63) (v := am_R 69) rfl rfl (rfl) ?_
      refine ax_const (q := 64) (v := am_I 0) rfl rfl rfl ?_
      refine ax_load (q := 65) rfl rfl rfl rfl rfl ?_
      refine ax_iadd (q := 66) (z := ((0 + p : Nat) : Int)) rfl rfl (am_we (by omega) (by omega) (by omega)) ?_
      refine bx_iald (q := 67) (k := 0 + p) (z := v p) rfl rfl (rfl) (by omega) (by omega) ((by rw [Nat.zero_add]; exact hL.rw.ag _ (by omega))) ?_
      refine ax_ret (r := some (am_I (v p))) rfl rfl ?_
      refine Eq.mp (congrArg (fun z => Q (some (am_I z)) _) ?_) hQ
      unfold F_person
      unfold inr_ at *
      simp [*]
    · refine ax_tsw (q := 68) rfl (by decide) ?_
      refine ax_load (q := 69) rfl rfl rfl rfl rfl ?_
      refine ax_getf (q := 72) (v := am_R 68) rfl rfl (rfl) ?_
      refine ax_getf (q := 75) (v := am_R 69) rfl rfl (rfl) ?_
      refine ax_const (q := 77) (v := am_I 6) rfl rfl rfl ?_
      refine ax_load (q := 78) rfl rfl rfl rfl rfl ?_
      refine ax_iadd (q := 79) (z := ((6 + p : Nat) : Int)) rfl rfl (am_we (by omega) (by omega) (by omega)) ?_
      refine bx_iald (q := 80) (k := 6 + p) (z := v (12 + p)) rfl rfl (rfl) (by omega) (by omega) (hL.rw.hw _ (by omega)) ?_
      refine ax_ret (r := some (am_I (v (12 + p)))) rfl rfl ?_
      refine Eq.mp (congrArg (fun z => Q (some (am_I z)) _) ?_) hQ
      unfold F_person
      unfold inr_ at *
      simp [*]
    · refine ax_tsw (q := 81) rfl (by decide) ?_
      refine ax_load (q := 82) rfl rfl rfl rfl rfl ?_
      refine ax_getf (q := 85) (v := am_R 68) rfl rfl (rfl) ?_
      refine ax_getf (q := 88) (v := am_R 69) rfl rfl (rfl) ?_
      refine ax_const (q := 90) (v := am_I 12) rfl rfl rfl ?_
      refine ax_load (q := 91) rfl rfl rfl rfl rfl ?_
      refine ax_iadd (q := 92) (z := ((12 + p : Nat) : Int)) rfl rfl (am_we (by omega) (by omega) (by omega)) ?_
      refine bx_iald (q := 93) (k := 12 + p) (z := v (18 + p)) rfl rfl (rfl) (by omega) (by omega) (hL.rw.pr _ (by omega)) ?_
      refine ax_ret (r := some (am_I (v (18 + p)))) rfl rfl ?_
      refine Eq.mp (congrArg (fun z => Q (some (am_I z)) _) ?_) hQ
      unfold F_person
      unfold inr_ at *
      simp [*]
    · refine ax_tsw (q := 94) rfl (by decide) ?_
      refine ax_load (q := 95) rfl rfl rfl rfl rfl ?_
      refine ax_getf (q := 98) (v := am_R 68) rfl rfl (rfl) ?_
      refine ax_getf (q := 101) (v := am_R t) rfl rfl (am_fgR rfl hL.to) ?_
      refine ax_getf (q := 104) (v := am_R (t + 19)) rfl rfl (xg7_6 hL.xt.ht) ?_
      refine ax_load (q := 105) rfl rfl rfl rfl rfl ?_
      refine bx_iald (q := 106) (k := p) (z := (((pa_ T p) : Nat) : Int)) rfl rfl (kd_19 hL.xt.ht) (by omega) (by omega) ((hL.xt.par _ (by omega)).trans (hV.pa (by omega)).1) ?_
      refine ax_ret (r := some (am_I (((pa_ T p) : Nat) : Int))) rfl rfl ?_
      refine Eq.mp (congrArg (fun z => Q (some (am_I z)) _) ?_) hQ
      unfold F_person
      unfold inr_ at *
      simp [*]
    · refine ax_tsw (q := 107) rfl (by decide) ?_
      refine ax_load (q := 108) rfl rfl rfl rfl rfl ?_
      refine ax_getf (q := 111) (v := am_R 68) rfl rfl (rfl) ?_
      refine ax_getf (q := 114) (v := am_R 69) rfl rfl (rfl) ?_
      refine ax_const (q := 116) (v := am_I 18) rfl rfl rfl ?_
      refine ax_load (q := 117) rfl rfl rfl rfl rfl ?_
      refine ax_iadd (q := 118) (z := ((18 + p : Nat) : Int)) rfl rfl (am_we (by omega) (by omega) (by omega)) ?_
      refine bx_iald (q := 119) (k := 18 + p) (z := v (6 + p)) rfl rfl (rfl) (by omega) (by omega) (hL.rw.hd _ (by omega)) ?_
      refine ax_ret (r := some (am_I (v (6 + p)))) rfl rfl ?_
      refine Eq.mp (congrArg (fun z => Q (some (am_I z)) _) ?_) hQ
      unfold F_person
      unfold inr_ at *
      simp [*]
    · refine ax_tsw (q := 120) rfl (by decide) ?_
      refine ax_load (q := 121) rfl rfl rfl rfl rfl ?_
      refine ax_getf (q := 124) (v := am_R 68) rfl rfl (rfl) ?_
      refine ax_load (q := 125) rfl rfl rfl rfl rfl ?_
      refine ax_callv (q := 128) rfl rfl rfl rfl rfl rfl ?_
      refine x_ordersFor (by omega) hL hV hp ?_
      refine ax_ret (r := some (am_I ((cs_ T v p : Nat) : Int))) rfl rfl ?_
      refine Eq.mp (congrArg (fun z => Q (some (am_I z)) _) ?_) hQ
      unfold F_person
      unfold inr_ at *
      simp [*]
    · simp only [not_or] at hk
      refine ax_tsw (q := 129) rfl (by unfold am_tsw; rw [if_pos (by omega)]; rfl) ?_
      refine ax_const (q := 131) (v := am_I (-2)) rfl rfl rfl ?_
      refine ax_ret (r := some (am_I (-2))) rfl rfl ?_
      refine Eq.mp (congrArg (fun z => Q (some (am_I z)) _) ?_) hQ
      unfold F_person
      unfold inr_ at *
      simp [*]
  · have hb12 := it_0 h12
    refine ax_const (q := 17) (v := am_I (-2)) rfl rfl rfl ?_
    refine ax_ret (r := some (am_I (-2))) rfl rfl ?_
    refine Eq.mp (congrArg (fun z => Q (some (am_I z)) _) ?_) hQ
    unfold F_person
    unfold inr_ at *
    simp [*]

theorem x_level {d : Nat} (hd : 2 ≤ d) {σ : am_S} {t : Nat} {T : sp_T} {v : sp_V} (hL : PL_ 68 t T v σ) (hV : TV_ T) {a s : Int} {Q : Option am_V → am_S → Prop} (hQ : Q (some (am_I (F_level T v a s))) σ) : am_Ev d 98 [am_R 0, am_I a, am_I s] σ Q := by
  obtain ⟨d, rfl⟩ : ∃ e, d = e + 1 := ⟨d - 1, by omega⟩
  have h6 := hV.nP
  have hO8 := hV.nO
  have hS4 := hV.nS
  have hR3 := hV.nR
  refine ev_in (m := 98) (c := k_X8_level) (L := [some (am_R 0), some (am_I a), some (am_I s)]) rfl rfl rfl rfl rfl rfl ?_
  refine ax_load (q := 1) rfl rfl rfl rfl rfl ?_
  refine ax_getf (q := 4) (v := am_R 68) rfl rfl (rfl) ?_
  refine ax_getf (q := 7) (v := am_R t) rfl rfl (am_fgR rfl hL.to) ?_
  refine ax_const (q := 8) (v := am_I 0) rfl rfl rfl ?_
  refine ax_load (q := 9) rfl rfl rfl rfl rfl ?_
  refine ax_callv (q := 12) rfl rfl rfl rfl rfl (kd_0 hL.ht) ?_
  refine x_has0 (by omega) hL.xt hV ?_
  rw [hs_i]
  refine ax_if_eq (q := 15) (x := 30) rfl rfl (fun h12 => ?_) (fun h12 => ?_)
  · have hb12 := it_0 h12
    refine ax_const (q := 31) (v := am_I (-1)) rfl rfl rfl ?_
    refine ax_ret (r := some (am_I (-1))) rfl rfl ?_
    refine Eq.mp (congrArg (fun z => Q (some (am_I z)) _) ?_) hQ
    unfold F_level
    unfold inr_ at *
    simp [*]
  · have hb12 := it_n0 h12
    obtain ⟨p, rfl, hp⟩ := inr_t hb12
    refine ax_load (q := 16) rfl rfl rfl rfl rfl ?_
    refine ax_getf (q := 19) (v := am_R 68) rfl rfl (rfl) ?_
    refine ax_getf (q := 22) (v := am_R t) rfl rfl (am_fgR rfl hL.to) ?_
    refine ax_const (q := 23) (v := am_I 1) rfl rfl rfl ?_
    refine ax_load (q := 24) rfl rfl rfl rfl rfl ?_
    refine ax_callv (q := 27) rfl rfl rfl rfl rfl (kd_0 hL.ht) ?_
    refine x_has1 (by omega) hL.xt hV ?_
    rw [hs_i]
    refine ax_if_ne (q := 30) (x := 32) rfl rfl (fun h27 => ?_) (fun h27 => ?_)
    · have hb27 := it_n0 h27
      obtain ⟨q, rfl, hq⟩ := inr_t hb27
      refine ax_load (q := 33) rfl rfl rfl rfl rfl ?_
      refine ax_getf (q := 36) (v := am_R 68) rfl rfl (rfl) ?_
      refine ax_load (q := 37) rfl rfl rfl rfl rfl ?_
      refine ax_load (q := 38) rfl rfl rfl rfl rfl ?_
      refine ax_callv (q := 41) rfl rfl rfl rfl rfl rfl ?_
      refine x_levelOf (by omega) hL hV hp (by omega) ?_
      refine ax_ret (r := some (am_I (v (24 + 4 * p + q)))) rfl rfl ?_
      refine Eq.mp (congrArg (fun z => Q (some (am_I z)) _) ?_) hQ
      unfold F_level
      unfold inr_ at *
      simp [*]
    · have hb27 := it_0 h27
      refine ax_const (q := 31) (v := am_I (-1)) rfl rfl rfl ?_
      refine ax_ret (r := some (am_I (-1))) rfl rfl ?_
      refine Eq.mp (congrArg (fun z => Q (some (am_I z)) _) ?_) hQ
      unfold F_level
      unfold inr_ at *
      simp [*]


theorem x_order {d : Nat} (hd : 2 ≤ d) {σ : am_S} {t : Nat} {T : sp_T} {v : sp_V} (hL : PL_ 68 t T v σ) (hV : TV_ T) {a k : Int} {Q : Option am_V → am_S → Prop} (hQ : Q (some (am_I (F_order T a k))) σ) : am_Ev d 99 [am_R 0, am_I a, am_I k] σ Q := by
  obtain ⟨d, rfl⟩ : ∃ e, d = e + 1 := ⟨d - 1, by omega⟩
  have h6 := hV.nP
  have hO8 := hV.nO
  have hS4 := hV.nS
  have hR3 := hV.nR
  have hkk : (k < 0 ∨ 5 < k) ∨ k = 0 ∨ k = 1 ∨ k = 2 ∨ k = 3 ∨ k = 4 ∨ k = 5 := by omega
  refine ev_in (m := 99) (c := k_X8_order) (L := [some (am_R 0), some (am_I a), some (am_I k)]) rfl rfl rfl rfl rfl rfl ?_
  rcases hkk with hkk | rfl | rfl | rfl | rfl | rfl | rfl
  · refine ax_load (q := 1) rfl rfl rfl rfl rfl ?_
    refine ax_getf (q := 4) (v := am_R 68) rfl rfl (rfl) ?_
    refine ax_getf (q := 7) (v := am_R t) rfl rfl (am_fgR rfl hL.to) ?_
    refine ax_const (q := 8) (v := am_I 2) rfl rfl rfl ?_
    refine ax_load (q := 9) rfl rfl rfl rfl rfl ?_
    refine ax_callv (q := 12) rfl rfl rfl rfl rfl (kd_0 hL.ht) ?_
    refine x_has2 (by omega) hL.xt hV ?_
    rw [hs_i]
    refine ax_if_ne (q := 15) (x := 17) rfl rfl (fun h12 => ?_) (fun h12 => ?_)
    · have hb12 := it_n0 h12
      obtain ⟨p, rfl, hp⟩ := inr_t hb12
      refine ax_load (q := 18) rfl rfl rfl rfl rfl ?_
      refine ax_if_lt (q := 21) (x := 41) rfl rfl (fun h18 => ?_) (fun h18 => ?_)
      · refine ax_load (q := 42) rfl rfl rfl rfl rfl ?_
        refine ax_const (q := 43) (v := am_I 5) rfl rfl rfl ?_
        refine ax_icmp_ne (q := 46) (x := 61) rfl rfl (fun h43 => ?_) (fun h => absurd h (by omega))
        refine ax_const (q := 62) (v := am_I (-1)) rfl rfl rfl ?_
        refine ax_ret (r := some (am_I (-1))) rfl rfl ?_
        refine Eq.mp (congrArg (fun z => Q (some (am_I z)) _) ?_) hQ
        unfold F_order
        unfold inr_ at *
        have k1 : ¬ k = 0 ∧ ¬ k = 1 ∧ ¬ k = 2 ∧ ¬ k = 3 ∧ ¬ k = 4 ∧ ¬ k = 5 := by omega
        simp [*]
      · refine ax_load (q := 22) rfl rfl rfl rfl rfl ?_
        refine ax_const (q := 23) (v := am_I 5) rfl rfl rfl ?_
        refine ax_icmp_ge (q := 26) (x := 41) rfl rfl (fun h23 => ?_) (fun h => absurd h (by omega))
        refine ax_load (q := 42) rfl rfl rfl rfl rfl ?_
        refine ax_const (q := 43) (v := am_I 5) rfl rfl rfl ?_
        refine ax_icmp_ne (q := 46) (x := 61) rfl rfl (fun h43 => ?_) (fun h => absurd h (by omega))
        refine ax_const (q := 62) (v := am_I (-1)) rfl rfl rfl ?_
        refine ax_ret (r := some (am_I (-1))) rfl rfl ?_
        refine Eq.mp (congrArg (fun z => Q (some (am_I z)) _) ?_) hQ
        unfold F_order
        unfold inr_ at *
        have k1 : ¬ k = 0 ∧ ¬ k = 1 ∧ ¬ k = 2 ∧ ¬ k = 3 ∧ ¬ k = 4 ∧ ¬ k = 5 := by omega
        simp [*]
    · have hb12 := it_0 h12
      refine ax_const (q := 16) (v := am_I (-1)) rfl rfl rfl ?_
      refine ax_ret (r := some (am_I (-1))) rfl rfl ?_
      refine Eq.mp (congrArg (fun z => Q (some (am_I z)) _) ?_) hQ
      unfold F_order
      unfold inr_ at *
      have k1 : ¬ k = 0 ∧ ¬ k = 1 ∧ ¬ k = 2 ∧ ¬ k = 3 ∧ ¬ k = 4 ∧ ¬ k = 5 := by omega
      simp [*]
  · refine ax_load (q := 1) rfl rfl rfl rfl rfl ?_
    refine ax_getf (q := 4) (v := am_R 68) rfl rfl (rfl) ?_
    refine ax_getf (q := 7) (v := am_R t) rfl rfl (am_fgR rfl hL.to) ?_
    refine ax_const (q := 8) (v := am_I 2) rfl rfl rfl ?_
    refine ax_load (q := 9) rfl rfl rfl rfl rfl ?_
    refine ax_callv (q := 12) rfl rfl rfl rfl rfl (kd_0 hL.ht) ?_
    refine x_has2 (by omega) hL.xt hV ?_
    rw [hs_i]
    refine ax_if_ne (q := 15) (x := 17) rfl rfl (fun h12 => ?_) (fun h12 => ?_)
    · have hb12 := it_n0 h12
      obtain ⟨p, rfl, hp⟩ := inr_t hb12
      refine ax_load (q := 18) rfl rfl rfl rfl rfl ?_
      refine ax_if_lt (q := 21) (x := 41) rfl rfl (fun h => absurd h (by omega)) (fun h18 => ?_)
      refine ax_load (q := 22) rfl rfl rfl rfl rfl ?_
      refine ax_const (q := 23) (v := am_I 5) rfl rfl rfl ?_
      refine ax_icmp_ge (q := 26) (x := 41) rfl rfl (fun h => absurd h (by omega)) (fun h23 => ?_)
      refine ax_load (q := 27) rfl rfl rfl rfl rfl ?_
      refine ax_getf (q := 30) (v := am_R 68) rfl rfl (rfl) ?_
      refine ax_getf (q := 33) (v := am_R t) rfl rfl (am_fgR rfl hL.to) ?_
      refine ax_getf (q := 36) (v := am_R (t + 7)) rfl rfl (xg7_2 hL.xt.ht) ?_
      refine ax_load (q := 37) rfl rfl rfl rfl rfl ?_
      refine bx_aald (q := 38) (k := 0) (z := t + 8) rfl rfl (Or.inl (kd_7 hL.xt.ht)) (by omega) (by omega) (by omega) ?_
      refine ax_load (q := 39) rfl rfl rfl rfl rfl ?_
      refine bx_iald (q := 40) (k := p) (z := (((sk_ T p) : Nat) : Int)) rfl rfl (kd_8 hL.xt.ht) (by omega) (by omega) ((hL.xt.ask _ (by omega)).trans (hV.sk (by omega)).1) ?_
      refine ax_ret (r := some (am_I (((sk_ T p) : Nat) : Int))) rfl rfl ?_
      refine Eq.mp (congrArg (fun z => Q (some (am_I z)) _) ?_) hQ
      unfold F_order
      unfold inr_ at *
      simp [*]
    · have hb12 := it_0 h12
      refine ax_const (q := 16) (v := am_I (-1)) rfl rfl rfl ?_
      refine ax_ret (r := some (am_I (-1))) rfl rfl ?_
      refine Eq.mp (congrArg (fun z => Q (some (am_I z)) _) ?_) hQ
      unfold F_order
      unfold inr_ at *
      simp [*]
  · refine ax_load (q := 1) rfl rfl rfl rfl rfl ?_
    refine ax_getf (q := 4) (v := am_R 68) rfl rfl (rfl) ?_
    refine ax_getf (q := 7) (v := am_R t) rfl rfl (am_fgR rfl hL.to) ?_
    refine ax_const (q := 8) (v := am_I 2) rfl rfl rfl ?_
    refine ax_load (q := 9) rfl rfl rfl rfl rfl ?_
    refine ax_callv (q := 12) rfl rfl rfl rfl rfl (kd_0 hL.ht) ?_
    refine x_has2 (by omega) hL.xt hV ?_
    rw [hs_i]
    refine ax_if_ne (q := 15) (x := 17) rfl rfl (fun h12 => ?_) (fun h12 => ?_)
    · have hb12 := it_n0 h12
      obtain ⟨p, rfl, hp⟩ := inr_t hb12
      refine ax_load (q := 18) rfl rfl rfl rfl rfl ?_
      refine ax_if_lt (q := 21) (x := 41) rfl rfl (fun h => absurd h (by omega)) (fun h18 => ?_)
      refine ax_load (q := 22) rfl rfl rfl rfl rfl ?_
      refine ax_const (q := 23) (v := am_I 5) rfl rfl rfl ?_
      refine ax_icmp_ge (q := 26) (x := 41) rfl rfl (fun h => absurd h (by omega)) (fun h23 => ?_)
      refine ax_load (q := 27) rfl rfl rfl rfl rfl ?_
      refine ax_getf (q := 30) (v := am_R 68) rfl rfl (rfl) ?_
      refine ax_getf (q := 33) (v := am_R t) rfl rfl (am_fgR rfl hL.to) ?_
      refine ax_getf (q := 36) (v := am_R (t + 7)) rfl rfl (xg7_2 hL.xt.ht) ?_
      refine ax_load (q := 37) rfl rfl rfl rfl rfl ?_
      refine bx_aald (q := 38) (k := 1) (z := t + 9) rfl rfl (Or.inl (kd_7 hL.xt.ht)) (by omega) (by omega) (by omega) ?_
      refine ax_load (q := 39) rfl rfl rfl rfl rfl ?_
      refine bx_iald (q := 40) (k := p) (z := T 152 p) rfl rfl (kd_9 hL.xt.ht) (by omega) (by omega) (hL.xt.lvl _ (by omega)) ?_
      refine ax_ret (r := some (am_I (T 152 p))) rfl rfl ?_
      refine Eq.mp (congrArg (fun z => Q (some (am_I z)) _) ?_) hQ
      unfold F_order
      unfold inr_ at *
      simp [*]
    · have hb12 := it_0 h12
      refine ax_const (q := 16) (v := am_I (-1)) rfl rfl rfl ?_
      refine ax_ret (r := some (am_I (-1))) rfl rfl ?_
      refine Eq.mp (congrArg (fun z => Q (some (am_I z)) _) ?_) hQ
      unfold F_order
      unfold inr_ at *
      simp [*]
  · refine ax_load (q := 1) rfl rfl rfl rfl rfl ?_
    refine ax_getf (q := 4) (v := am_R 68) rfl rfl (rfl) ?_
    refine ax_getf (q := 7) (v := am_R t) rfl rfl (am_fgR rfl hL.to) ?_
    refine ax_const (q := 8) (v := am_I 2) rfl rfl rfl ?_
    refine ax_load (q := 9) rfl rfl rfl rfl rfl ?_
    refine ax_callv (q := 12) rfl rfl rfl rfl rfl (kd_0 hL.ht) ?_
    refine x_has2 (by omega) hL.xt hV ?_
    rw [hs_i]
    refine ax_if_ne (q := 15) (x := 17) rfl rfl (fun h12 => ?_) (fun h12 => ?_)
    · have hb12 := it_n0 h12
      obtain ⟨p, rfl, hp⟩ := inr_t hb12
      refine ax_load (q := 18) rfl rfl rfl rfl rfl ?_
      refine ax_if_lt (q := 21) (x := 41) rfl rfl (fun h => absurd h (by omega)) (fun h18 => ?_)
      refine ax_load (q := 22) rfl rfl rfl rfl rfl ?_
      refine ax_const (q := 23) (v := am_I 5) rfl rfl rfl ?_
      refine ax_icmp_ge (q := 26) (x := 41) rfl rfl (fun h => absurd h (by omega)) (fun h23 => ?_)
      refine ax_load (q := 27) rfl rfl rfl rfl rfl ?_
      refine ax_getf (q := 30) (v := am_R 68) rfl rfl (rfl) ?_
      refine ax_getf (q := 33) (v := am_R t) rfl rfl (am_fgR rfl hL.to) ?_
      refine ax_getf (q := 36) (v := am_R (t + 7)) rfl rfl (xg7_2 hL.xt.ht) ?_
      refine ax_load (q := 37) rfl rfl rfl rfl rfl ?_
      refine bx_aald (q := 38) (k := 2) (z := t + 10) rfl rfl (Or.inl (kd_7 hL.xt.ht)) (by omega) (by omega) (by omega) ?_
      refine ax_load (q := 39) rfl rfl rfl rfl rfl ?_
      refine bx_iald (q := 40) (k := p) (z := T 153 p) rfl rfl (kd_10 hL.xt.ht) (by omega) (by omega) (hL.xt.sea _ (by omega)) ?_
      refine ax_ret (r := some (am_I (T 153 p))) rfl rfl ?_
      refine Eq.mp (congrArg (fun z => Q (some (am_I z)) _) ?_) hQ
      unfold F_order
      unfold inr_ at *
      simp [*]
    · have hb12 := it_0 h12
      refine ax_const (q := 16) (v := am_I (-1)) rfl rfl rfl ?_
      refine ax_ret (r := some (am_I (-1))) rfl rfl ?_
      refine Eq.mp (congrArg (fun z => Q (some (am_I z)) _) ?_) hQ
      unfold F_order
      unfold inr_ at *
      simp [*]
  · refine ax_load (q := 1) rfl rfl rfl rfl rfl ?_
    refine ax_getf (q := 4) (v := am_R 68) rfl rfl (rfl) ?_
    refine ax_getf (q := 7) (v := am_R t) rfl rfl (am_fgR rfl hL.to) ?_
    refine ax_const (q := 8) (v := am_I 2) rfl rfl rfl ?_
    refine ax_load (q := 9) rfl rfl rfl rfl rfl ?_
    refine ax_callv (q := 12) rfl rfl rfl rfl rfl (kd_0 hL.ht) ?_
    refine x_has2 (by omega) hL.xt hV ?_
    rw [hs_i]
    refine ax_if_ne (q := 15) (x := 17) rfl rfl (fun h12 => ?_) (fun h12 => ?_)
    · have hb12 := it_n0 h12
      obtain ⟨p, rfl, hp⟩ := inr_t hb12
      refine ax_load (q := 18) rfl rfl rfl rfl rfl ?_
      refine ax_if_lt (q := 21) (x := 41) rfl rfl (fun h => absurd h (by omega)) (fun h18 => ?_)
      refine ax_load (q := 22) rfl rfl rfl rfl rfl ?_
      refine ax_const (q := 23) (v := am_I 5) rfl rfl rfl ?_
      refine ax_icmp_ge (q := 26) (x := 41) rfl rfl (fun h => absurd h (by omega)) (fun h23 => ?_)
      refine ax_load (q := 27) rfl rfl rfl rfl rfl ?_
      refine ax_getf (q := 30) (v := am_R 68) rfl rfl (rfl) ?_
      refine ax_getf (q := 33) (v := am_R t) rfl rfl (am_fgR rfl hL.to) ?_
      refine ax_getf (q := 36) (v := am_R (t + 7)) rfl rfl (xg7_2 hL.xt.ht) ?_
      refine ax_load (q := 37) rfl rfl rfl rfl rfl ?_
      refine bx_aald (q := 38) (k := 3) (z := t + 11) rfl rfl (Or.inl (kd_7 hL.xt.ht)) (by omega) (by omega) (by omega) ?_
      refine ax_load (q := 39) rfl rfl rfl rfl rfl ?_
      refine bx_iald (q := 40) (k := p) (z := T 154 p) rfl rfl (kd_11 hL.xt.ht) (by omega) (by omega) (hL.xt.wei _ (by omega)) ?_
      refine ax_ret (r := some (am_I (T 154 p))) rfl rfl ?_
      refine Eq.mp (congrArg (fun z => Q (some (am_I z)) _) ?_) hQ
      unfold F_order
      unfold inr_ at *
      simp [*]
    · have hb12 := it_0 h12
      refine ax_const (q := 16) (v := am_I (-1)) rfl rfl rfl ?_
      refine ax_ret (r := some (am_I (-1))) rfl rfl ?_
      refine Eq.mp (congrArg (fun z => Q (some (am_I z)) _) ?_) hQ
      unfold F_order
      unfold inr_ at *
      simp [*]
  · refine ax_load (q := 1) rfl rfl rfl rfl rfl ?_
    refine ax_getf (q := 4) (v := am_R 68) rfl rfl (rfl) ?_
    refine ax_getf (q := 7) (v := am_R t) rfl rfl (am_fgR rfl hL.to) ?_
    refine ax_const (q := 8) (v := am_I 2) rfl rfl rfl ?_
    refine ax_load (q := 9) rfl rfl rfl rfl rfl ?_
    refine ax_callv (q := 12) rfl rfl rfl rfl rfl (kd_0 hL.ht) ?_
    refine x_has2 (by omega) hL.xt hV ?_
    rw [hs_i]
    refine ax_if_ne (q := 15) (x := 17) rfl rfl (fun h12 => ?_) (fun h12 => ?_)
    · have hb12 := it_n0 h12
      obtain ⟨p, rfl, hp⟩ := inr_t hb12
      refine ax_load (q := 18) rfl rfl rfl rfl rfl ?_
      refine ax_if_lt (q := 21) (x := 41) rfl rfl (fun h => absurd h (by omega)) (fun h18 => ?_)
      refine ax_load (q := 22) rfl rfl rfl rfl rfl ?_
      refine ax_const (q := 23) (v := am_I 5) rfl rfl rfl ?_
      refine ax_icmp_ge (q := 26) (x := 41) rfl rfl (fun h => absurd h (by omega)) (fun h23 => ?_)
      refine ax_load (q := 27) rfl rfl rfl rfl rfl ?_
      refine ax_getf (q := 30) (v := am_R 68) rfl rfl (rfl) ?_
      refine ax_getf (q := 33) (v := am_R t) rfl rfl (am_fgR rfl hL.to) ?_
      refine ax_getf (q := 36) (v := am_R (t + 7)) rfl rfl (xg7_2 hL.xt.ht) ?_
      refine ax_load (q := 37) rfl rfl rfl rfl rfl ?_
      refine bx_aald (q := 38) (k := 4) (z := t + 12) rfl rfl (Or.inl (kd_7 hL.xt.ht)) (by omega) (by omega) (by omega) ?_
      refine ax_load (q := 39) rfl rfl rfl rfl rfl ?_
      refine bx_iald (q := 40) (k := p) (z := T 155 p) rfl rfl (kd_12 hL.xt.ht) (by omega) (by omega) (hL.xt.wor _ (by omega)) ?_
      refine ax_ret (r := some (am_I (T 155 p))) rfl rfl ?_
      refine Eq.mp (congrArg (fun z => Q (some (am_I z)) _) ?_) hQ
      unfold F_order
      unfold inr_ at *
      simp [*]
    · have hb12 := it_0 h12
      refine ax_const (q := 16) (v := am_I (-1)) rfl rfl rfl ?_
      refine ax_ret (r := some (am_I (-1))) rfl rfl ?_
      refine Eq.mp (congrArg (fun z => Q (some (am_I z)) _) ?_) hQ
      unfold F_order
      unfold inr_ at *
      simp [*]
  · refine ax_load (q := 1) rfl rfl rfl rfl rfl ?_
    refine ax_getf (q := 4) (v := am_R 68) rfl rfl (rfl) ?_
    refine ax_getf (q := 7) (v := am_R t) rfl rfl (am_fgR rfl hL.to) ?_
    refine ax_const (q := 8) (v := am_I 2) rfl rfl rfl ?_
    refine ax_load (q := 9) rfl rfl rfl rfl rfl ?_
    refine ax_callv (q := 12) rfl rfl rfl rfl rfl (kd_0 hL.ht) ?_
    refine x_has2 (by omega) hL.xt hV ?_
    rw [hs_i]
    refine ax_if_ne (q := 15) (x := 17) rfl rfl (fun h12 => ?_) (fun h12 => ?_)
    · have hb12 := it_n0 h12
      obtain ⟨p, rfl, hp⟩ := inr_t hb12
      refine ax_load (q := 18) rfl rfl rfl rfl rfl ?_
      refine ax_if_lt (q := 21) (x := 41) rfl rfl (fun h => absurd h (by omega)) (fun h18 => ?_)
      refine ax_load (q := 22) rfl rfl rfl rfl rfl ?_
      refine ax_const (q := 23) (v := am_I 5) rfl rfl rfl ?_
      refine ax_icmp_ge (q := 26) (x := 41) rfl rfl (fun h23 => ?_) (fun h => absurd h (by omega))
      refine ax_load (q := 42) rfl rfl rfl rfl rfl ?_
      refine ax_const (q := 43) (v := am_I 5) rfl rfl rfl ?_
      refine ax_icmp_ne (q := 46) (x := 61) rfl rfl (fun h => absurd h (by omega)) (fun h43 => ?_)
      refine ax_load (q := 47) rfl rfl rfl rfl rfl ?_
      refine ax_getf (q := 50) (v := am_R 68) rfl rfl (rfl) ?_
      refine ax_getf (q := 53) (v := am_R t) rfl rfl (am_fgR rfl hL.to) ?_
      refine ax_getf (q := 56) (v := am_R (t + 13)) rfl rfl (xg7_3 hL.xt.ht) ?_
      refine ax_load (q := 57) rfl rfl rfl rfl rfl ?_
      refine bx_iald (q := 58) (k := p) (z := T 156 p) rfl rfl (kd_13 hL.xt.ht) (by omega) (by omega) (hL.xt.und _ (by omega)) ?_
      refine ax_goto (x := 62) rfl ?_
      refine ax_ret (r := some (am_I (T 156 p))) rfl rfl ?_
      refine Eq.mp (congrArg (fun z => Q (some (am_I z)) _) ?_) hQ
      unfold F_order
      unfold inr_ at *
      simp [*]
    · have hb12 := it_0 h12
      refine ax_const (q := 16) (v := am_I (-1)) rfl rfl rfl ?_
      refine ax_ret (r := some (am_I (-1))) rfl rfl ?_
      refine Eq.mp (congrArg (fun z => Q (some (am_I z)) _) ?_) hQ
      unfold F_order
      unfold inr_ at *
      simp [*]

theorem x_share {d : Nat} (hd : 2 ≤ d) {σ : am_S} {t : Nat} {T : sp_T} {v : sp_V} (hL : PL_ 68 t T v σ) (hV : TV_ T) {a o : Int} {Q : Option am_V → am_S → Prop} (hQ : Q (some (am_I (F_share T a o))) σ) : am_Ev d 100 [am_R 0, am_I a, am_I o] σ Q := by
  obtain ⟨d, rfl⟩ : ∃ e, d = e + 1 := ⟨d - 1, by omega⟩
  have h6 := hV.nP
  have hO8 := hV.nO
  have hS4 := hV.nS
  have hR3 := hV.nR
  refine ev_in (m := 100) (c := k_X8_share) (L := [some (am_R 0), some (am_I a), some (am_I o)]) rfl rfl rfl rfl rfl rfl ?_
  refine ax_load (q := 1) rfl rfl rfl rfl rfl ?_
  refine ax_getf (q := 4) (v := am_R 68) rfl rfl (rfl) ?_
  refine ax_getf (q := 7) (v := am_R t) rfl rfl (am_fgR rfl hL.to) ?_
  refine ax_const (q := 8) (v := am_I 3) rfl rfl rfl ?_
  refine ax_load (q := 9) rfl rfl rfl rfl rfl ?_
  refine ax_callv (q := 12) rfl rfl rfl rfl rfl (kd_0 hL.ht) ?_
  refine x_has3 (by omega) hL.xt hV ?_
  rw [hs_i]
  refine ax_if_eq (q := 15) (x := 30) rfl rfl (fun h12 => ?_) (fun h12 => ?_)
  · have hb12 := it_0 h12
    refine ax_const (q := 31) (v := am_I (-1)) rfl rfl rfl ?_
    refine ax_ret (r := some (am_I (-1))) rfl rfl ?_
    refine Eq.mp (congrArg (fun z => Q (some (am_I z)) _) ?_) hQ
    unfold F_share
    unfold inr_ at *
    simp [*]
  · have hb12 := it_n0 h12
    obtain ⟨p, rfl, hp⟩ := inr_t hb12
    refine ax_load (q := 16) rfl rfl rfl rfl rfl ?_
    refine ax_getf (q := 19) (v := am_R 68) rfl rfl (rfl) ?_
    refine ax_getf (q := 22) (v := am_R t) rfl rfl (am_fgR rfl hL.to) ?_
    refine ax_const (q := 23) (v := am_I 2) rfl rfl rfl ?_
    refine ax_load (q := 24) rfl rfl rfl rfl rfl ?_
    refine ax_callv (q := 27) rfl rfl rfl rfl rfl (kd_0 hL.ht) ?_
    refine x_has2 (by omega) hL.xt hV ?_
    rw [hs_i]
    refine ax_if_ne (q := 30) (x := 32) rfl rfl (fun h27 => ?_) (fun h27 => ?_)
    · have hb27 := it_n0 h27
      obtain ⟨r, rfl, hr⟩ := inr_t hb27
      refine ax_load (q := 33) rfl rfl rfl rfl rfl ?_
      refine ax_getf (q := 36) (v := am_R 68) rfl rfl (rfl) ?_
      refine ax_getf (q := 39) (v := am_R t) rfl rfl (am_fgR rfl hL.to) ?_
      refine ax_getf (q := 42) (v := am_R (t + 15)) rfl rfl (xg7_5 hL.xt.ht) ?_
      refine ax_load (q := 43) rfl rfl rfl rfl rfl ?_
      refine bx_aald (q := 44) (k := p) (z := t + 16 + p) rfl rfl (Or.inl (kd_15 hL.xt.ht)) (by omega) (by omega) (by omega) ?_
      refine ax_load (q := 45) rfl rfl rfl rfl rfl ?_
      refine bx_iald (q := 46) (k := r) (z := T 158 (8 * p + r)) rfl rfl (kd_sh hL.xt.ht (by omega)) (by omega) (by omega) (hL.xt.sha _ _ (by omega) (by omega)) ?_
      refine ax_ret (r := some (am_I (T 158 (8 * p + r)))) rfl rfl ?_
      refine Eq.mp (congrArg (fun z => Q (some (am_I z)) _) ?_) hQ
      unfold F_share
      unfold inr_ at *
      simp [*]
    · have hb27 := it_0 h27
      refine ax_const (q := 31) (v := am_I (-1)) rfl rfl rfl ?_
      refine ax_ret (r := some (am_I (-1))) rfl rfl ?_
      refine Eq.mp (congrArg (fun z => Q (some (am_I z)) _) ?_) hQ
      unfold F_share
      unfold inr_ at *
      simp [*]

theorem x_many {d : Nat} (hd : 2 ≤ d) {σ : am_S} {t : Nat} {T : sp_T} {v : sp_V} (hL : PL_ 68 t T v σ) (hV : TV_ T) {h : Int} {Q : Option am_V → am_S → Prop} (hQ : Q (some (am_I (F_many T v h))) σ) : am_Ev d 101 [am_R 0, am_I h] σ Q := by
  obtain ⟨d, rfl⟩ : ∃ e, d = e + 1 := ⟨d - 1, by omega⟩
  have h6 := hV.nP
  have hO8 := hV.nO
  have hS4 := hV.nS
  have hR3 := hV.nR
  refine ev_in (m := 101) (c := k_X8_many) (L := [some (am_R 0), some (am_I h)]) rfl rfl rfl rfl rfl rfl ?_
  refine ax_load (q := 1) rfl rfl rfl rfl rfl ?_
  refine ax_if_lt (q := 4) (x := 9) rfl rfl (fun h1 => ?_) (fun h1 => ?_)
  · refine ax_const (q := 10) (v := am_I (-1)) rfl rfl rfl ?_
    refine ax_goto (x := 21) rfl ?_
    refine ax_ret (r := some (am_I (-1))) rfl rfl ?_
    refine Eq.mp (congrArg (fun z => Q (some (am_I z)) _) ?_) hQ
    unfold F_many
    rw [decide_eq_false (by omega)]
    rfl
  · refine ax_load (q := 5) rfl rfl rfl rfl rfl ?_
    refine ax_const (q := 6) (v := am_I 4) rfl rfl rfl ?_
    refine ax_icmp_le (q := 9) (x := 13) rfl rfl (fun h6 => ?_) (fun h6 => ?_)
    · refine ax_load (q := 14) rfl rfl rfl rfl rfl ?_
      refine ax_getf (q := 17) (v := am_R 68) rfl rfl (rfl) ?_
      refine ax_load (q := 18) rfl rfl rfl rfl rfl ?_
      refine ax_callv (q := 21) rfl rfl rfl rfl rfl rfl ?_
      refine x_countOf (by omega) hL hV ?_
      refine ax_ret (r := some (am_I (((mo_ T v h) : Nat) : Int))) rfl rfl ?_
      refine Eq.mp (congrArg (fun z => Q (some (am_I z)) _) ?_) hQ
      unfold F_many
      rw [decide_eq_true (by omega)]
      rfl
    · refine ax_const (q := 10) (v := am_I (-1)) rfl rfl rfl ?_
      refine ax_goto (x := 21) rfl ?_
      refine ax_ret (r := some (am_I (-1))) rfl rfl ?_
      refine Eq.mp (congrArg (fun z => Q (some (am_I z)) _) ?_) hQ
      unfold F_many
      rw [decide_eq_false (by omega)]
      rfl

theorem x_done {d : Nat} (hd : 2 ≤ d) {σ : am_S} {t : Nat} {T : sp_T} {v : sp_V} (hL : PL_ 68 t T v σ) (hV : TV_ T) {b : Int} (hW : VV_ T b v) (hb9 : b < 900000) (hD : DN_ T v) {Q : Option am_V → am_S → Prop} (hQ : Q (some (am_I (v 48))) σ) : am_Ev d 102 [am_R 0] σ Q := by
  obtain ⟨d, rfl⟩ : ∃ e, d = e + 1 := ⟨d - 1, by omega⟩
  refine ev_in (m := 102) (c := k_X8_done) (L := [some (am_R 0)]) rfl rfl rfl rfl rfl rfl ?_
  refine ax_load (q := 1) rfl rfl rfl rfl rfl ?_
  refine ax_getf (q := 4) (v := am_R 68) rfl rfl (rfl) ?_
  refine ax_callv (q := 7) rfl rfl rfl rfl rfl rfl ?_
  refine x_doneOrders (by omega) hL hV hW hD ?_
  refine ax_ret (r := some (am_I (v 48))) rfl rfl ?_
  exact hQ

theorem xl_able {d : Nat} (hd : 4 ≤ d) {σ : am_S} {t : Nat} {T : sp_T} {v : sp_V} (hL : PL_ 68 t T v σ) (hV : TV_ T) {o : Nat} (ho : o < nO_ T) {Q : Option am_V → am_S → Prop} (hQ : Q (some (am_I ((bi_ (nP_ T) (fun p => sh_ v p && cn_ T v p o) : Nat) : Int))) σ) : ∀ (m k : Nat), k + m = nP_ T → aW d 0 k_X8_able Q 21 [some (am_R 0), some (am_I ((o : Nat) : Int)), some (am_I (((bi_ k (fun p => cn_ T v p o)) : Nat) : Int)), some (am_I ((k : Nat) : Int))] [] σ := by
  have h6 := hV.nP
  have hO8 := hV.nO
  have hS4 := hV.nS
  have hR3 := hV.nR
  intro m
  induction m with
  | zero =>
    intro k hk
    obtain rfl : k = nP_ T := by omega
    have hb1 := bi_lt (fun p => cn_ T v p o) (nP_ T)
    have hb2 := bi_lt (sh_ v) (nP_ T)
    have hp2 : 2 ^ nP_ T ≤ 2 ^ 6 := Nat.pow_le_pow_right (by decide) (by omega)
    refine ax_load (q := 22) rfl rfl rfl rfl rfl ?_
    refine ax_load (q := 23) rfl rfl rfl rfl rfl ?_
    refine ax_getf (q := 26) (v := am_R 68) rfl rfl (rfl) ?_
    refine ax_getf (q := 29) (v := am_R t) rfl rfl (am_fgR rfl hL.to) ?_
    refine ax_getf (q := 32) (v := am_R (t + 1)) rfl rfl (xg7_0 hL.xt.ht) ?_
    refine ax_const (q := 33) (v := am_I 0) rfl rfl rfl ?_
    refine bx_iald (q := 34) (k := 0) (z := (((nP_ T) : Nat) : Int)) rfl rfl (kd_1 hL.xt.ht) (by omega) (by omega) (hL.xt.c0.trans hV.nP.1) ?_
    refine ax_icmp_ge (q := 37) (x := 61) rfl rfl (fun h34 => ?_) (fun h => absurd h (by omega))
    refine ax_load (q := 62) rfl rfl rfl rfl rfl ?_
    refine ax_load (q := 63) rfl rfl rfl rfl rfl ?_
    refine ax_getf (q := 66) (v := am_R 68) rfl rfl (rfl) ?_
    refine ax_callv (q := 69) rfl rfl rfl rfl rfl rfl ?_
    refine x_unopened (by omega) hL hV ?_
    refine ax_iand (q := 70) (z := (((bi_ (nP_ T) (fun p => cn_ T v p o)) &&& (bi_ (nP_ T) (sh_ v)) : Nat) : Int)) rfl rfl (am_and_nat (by omega) (by omega)) ?_
    refine ax_ret (r := some (am_I (((bi_ (nP_ T) (fun p => cn_ T v p o)) &&& (bi_ (nP_ T) (sh_ v)) : Nat) : Int))) rfl rfl ?_
    rw [bi_and]
    exact hQ
  | succ m ih =>
    intro k hk
    have hbl := bi_lt (fun p => cn_ T v p o) k
    have hp2 : 2 ^ k < 2 ^ 8 := Nat.pow_lt_pow_right (by decide) (by omega)
    refine ax_load (q := 22) rfl rfl rfl rfl rfl ?_
    refine ax_load (q := 23) rfl rfl rfl rfl rfl ?_
    refine ax_getf (q := 26) (v := am_R 68) rfl rfl (rfl) ?_
    refine ax_getf (q := 29) (v := am_R t) rfl rfl (am_fgR rfl hL.to) ?_
    refine ax_getf (q := 32) (v := am_R (t + 1)) rfl rfl (xg7_0 hL.xt.ht) ?_
    refine ax_const (q := 33) (v := am_I 0) rfl rfl rfl ?_
    refine bx_iald (q := 34) (k := 0) (z := (((nP_ T) : Nat) : Int)) rfl rfl (kd_1 hL.xt.ht) (by omega) (by omega) (hL.xt.c0.trans hV.nP.1) ?_
    refine ax_icmp_ge (q := 37) (x := 61) rfl rfl (fun h => absurd h (by omega)) (fun h34 => ?_)
    refine ax_load (q := 38) rfl rfl rfl rfl rfl ?_
    refine ax_getf (q := 41) (v := am_R 68) rfl rfl (rfl) ?_
    refine ax_load (q := 42) rfl rfl rfl rfl rfl ?_
    refine ax_load (q := 43) rfl rfl rfl rfl rfl ?_
    refine ax_callv (q := 46) rfl rfl rfl rfl rfl rfl ?_
    refine x_canDo (by omega) hL hV (by omega) ho ?_
    refine ax_if_eq (q := 49) (x := 55) rfl rfl (fun h46 => ?_) (fun h46 => ?_)
    · have hb := it_0 h46
      refine ax_iinc (q := 58) (z' := ((k + 1 : Nat) : Int)) (L' := [some (am_R 0), some (am_I ((o : Nat) : Int)), some (am_I (((bi_ k (fun p => cn_ T v p o)) : Nat) : Int)), some (am_I ((k + 1 : Nat) : Int))]) rfl rfl rfl rfl (am_we (by omega) (by omega) (by omega)) rfl ?_
      refine ax_goto (x := 21) rfl ?_
      have e : bi_ (k + 1) (fun p => cn_ T v p o) = bi_ k (fun p => cn_ T v p o) := by show _ + (if cn_ T v k o = true then _ else 0) = _; rw [if_neg (by rw [hb]; decide)]; rfl
      have g := ih (k + 1) (by omega)
      rw [e] at g
      exact g
    · have hb := it_n0 h46
      refine ax_load (q := 50) rfl rfl rfl rfl rfl ?_
      refine ax_const (q := 51) (v := am_I 1) rfl rfl rfl ?_
      refine ax_load (q := 52) rfl rfl rfl rfl rfl ?_
      refine ax_ishl (q := 53) (z := ((2 ^ k : Nat) : Int)) rfl rfl (am_shl1 k (by omega)) ?_
      refine ax_ior (q := 54) (z := (((bi_ k (fun p => cn_ T v p o)) + 2 ^ k : Nat) : Int)) rfl rfl (am_or_bit hbl (by omega)) ?_
      refine ax_store (q := 55) (L' := [some (am_R 0), some (am_I ((o : Nat) : Int)), some (am_I (((bi_ k (fun p => cn_ T v p o)) + 2 ^ k : Nat) : Int)), some (am_I ((k : Nat) : Int))]) rfl rfl rfl rfl rfl rfl ?_
      refine ax_iinc (q := 58) (z' := ((k + 1 : Nat) : Int)) (L' := [some (am_R 0), some (am_I ((o : Nat) : Int)), some (am_I (((bi_ k (fun p => cn_ T v p o)) + 2 ^ k : Nat) : Int)), some (am_I ((k + 1 : Nat) : Int))]) rfl rfl rfl rfl (am_we (by omega) (by omega) (by omega)) rfl ?_
      refine ax_goto (x := 21) rfl ?_
      have e : bi_ (k + 1) (fun p => cn_ T v p o) = bi_ k (fun p => cn_ T v p o) + 2 ^ k := by show _ + (if cn_ T v k o = true then _ else 0) = _; rw [if_pos hb]
      have g := ih (k + 1) (by omega)
      rw [e] at g
      exact g

theorem x_able {d : Nat} (hd : 5 ≤ d) {σ : am_S} {t : Nat} {T : sp_T} {v : sp_V} (hL : PL_ 68 t T v σ) (hV : TV_ T) {a : Int} {Q : Option am_V → am_S → Prop} (hQ : Q (some (am_I (F_able T v a))) σ) : am_Ev d 119 [am_R 0, am_I a] σ Q := by
  obtain ⟨d, rfl⟩ : ∃ e, d = e + 1 := ⟨d - 1, by omega⟩
  have h6 := hV.nP
  have hO8 := hV.nO
  have hS4 := hV.nS
  have hR3 := hV.nR
  refine ev_in (m := 119) (c := k_X8_able) (L := [some (am_R 0), some (am_I a), none, none]) rfl rfl rfl rfl rfl rfl ?_
  refine ax_load (q := 1) rfl rfl rfl rfl rfl ?_
  refine ax_getf (q := 4) (v := am_R 68) rfl rfl (rfl) ?_
  refine ax_getf (q := 7) (v := am_R t) rfl rfl (am_fgR rfl hL.to) ?_
  refine ax_const (q := 8) (v := am_I 2) rfl rfl rfl ?_
  refine ax_load (q := 9) rfl rfl rfl rfl rfl ?_
  refine ax_callv (q := 12) rfl rfl rfl rfl rfl (kd_0 hL.ht) ?_
  refine x_has2 (by omega) hL.xt hV ?_
  rw [hs_i]
  refine ax_if_ne (q := 15) (x := 17) rfl rfl (fun h12 => ?_) (fun h12 => ?_)
  · have hb12 := it_n0 h12
    obtain ⟨o, rfl, ho⟩ := inr_t hb12
    refine ax_const (q := 18) (v := am_I 0) rfl rfl rfl ?_
    refine ax_store (q := 19) (L' := [some (am_R 0), some (am_I ((o : Nat) : Int)), some (am_I 0), none]) rfl rfl rfl rfl rfl rfl ?_
    refine ax_const (q := 20) (v := am_I 0) rfl rfl rfl ?_
    refine ax_store (q := 21) (L' := [some (am_R 0), some (am_I ((o : Nat) : Int)), some (am_I 0), some (am_I 0)]) rfl rfl rfl rfl rfl rfl ?_
    refine xl_able (by omega) hL hV ho ?_ (nP_ T) 0 (by omega)
    refine Eq.mp (congrArg (fun z => Q (some (am_I z)) _) ?_) hQ
    unfold F_able
    rw [hb12]
    simp
  · have hb12 := it_0 h12
    refine ax_const (q := 16) (v := am_I (-1)) rfl rfl rfl ?_
    refine ax_ret (r := some (am_I (-1))) rfl rfl ?_
    refine Eq.mp (congrArg (fun z => Q (some (am_I z)) _) ?_) hQ
    unfold F_able
    rw [hb12]
    rfl

