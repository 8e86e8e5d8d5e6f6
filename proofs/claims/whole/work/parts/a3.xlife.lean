def l0_ (A : List Nat) (σ σ' : am_S) : Prop := (∀ b, b ∉ A → b ≠ 0 → σ'.1 b = σ.1 b) ∧ (∀ k, k ≠ 14 → σ'.1 0 k = σ.1 0 k) ∧ σ'.2 = σ.2
theorem l0_tr {A B C : List Nat} {σ σ1 σ2 : am_S} (h1 : l0_ A σ σ1) (h2 : l0_ B σ1 σ2) (ha : ∀ a, a ∈ A → a ∈ C) (hb : ∀ a, a ∈ B → a ∈ C) : l0_ C σ σ2 := ⟨fun b hc h0 => by rw [h2.1 b (fun q => hc (hb b q)) h0, h1.1 b (fun q => hc (ha b q)) h0], fun k hk => by rw [h2.2.1 k hk, h1.2.1 k hk], by rw [h2.2.2, h1.2.2]⟩
theorem l0_fr {A : List Nat} {σ σ' : am_S} (h : fr_ A σ σ') (h0 : 0 ∉ A) : l0_ A σ σ' := ⟨fun b hb _ => h.1 b hb, fun k _ => by rw [h.1 0 h0], h.2⟩
theorem l0_s {σ : am_S} {z : Int} (A : List Nat) : l0_ A σ (am_sI σ 0 (am_up (σ.1 0) 14 z)) := ⟨fun b _ h0 => sI_ne h0, fun k hk => by rw [sI_at, am_up_ne hk], rfl⟩
theorem PL_.l0 {t : Nat} {T : sp_T} {v : sp_V} {σ σ' : am_S} (h : PL_ 68 t T v σ) {A : List Nat} (hf : l0_ A σ σ') (hl : ∀ a, a ∈ A → (a < t ∨ t + 30 < a) ∧ a ≠ 69) : PL_ 68 t T v σ' :=
  ⟨h.hq, by rw [hf.2.2]; exact h.to, h.xt.fr (fun a h1 h2 => hf.1 a (fun w => by have := (hl a w).1; omega) (by have := h.ht; omega)), by rw [hf.1 69 (fun w => (hl _ w).2 rfl) (by decide)]; exact h.rw⟩

theorem xl_lay120 {d : Nat} {σ : am_S} {n : Nat} (hn : n ≤ 4) {Q : Option am_V → am_S → Prop} (hQ : ∀ σ', l0_ [134] σ σ' → σ'.1 0 14 = ((n : Nat) : Int) → (∀ k, k < n → σ'.1 134 k = σ.1 120 k) → Q none σ') : ∀ (m k : Nat), k + m = n → ∀ σ', fr_ [134] σ σ' → (∀ j, j < k → σ'.1 134 j = σ.1 120 j) → aW d 4 k_X8_lay Q 2 [some (am_R 0), some (am_R 120), some (am_I ((n : Nat) : Int)), some (am_I ((k : Nat) : Int))] [] σ' := by
  intro m
  induction m with
  | zero =>
    intro k hk σ' hf hc
    obtain hk2 : k = n := by omega
    subst hk2
    refine ax_load (q := 3) rfl rfl rfl rfl rfl ?_
    refine ax_load (q := 4) rfl rfl rfl rfl rfl ?_
    refine ax_icmp_ge (q := 7) (x := 37) rfl rfl (fun h4 => ?_) (fun h => absurd h (by omega))
    refine ax_load (q := 38) rfl rfl rfl rfl rfl ?_
    refine ax_load (q := 39) rfl rfl rfl rfl rfl ?_
    refine ax_putf (q := 42) rfl rfl rfl ?_
    refine ax_ret (r := none) rfl rfl ?_
    refine hQ _ (l0_tr (l0_fr hf (by decide)) (l0_s [134]) (fun a h => h) (fun a h => h)) (by rw [sI_at, am_up_same]) (fun j hj => by rw [sI_ne (by decide)]; exact hc j hj)
  | succ m ih =>
    intro k hk σ' hf hc
    refine ax_load (q := 3) rfl rfl rfl rfl rfl ?_
    refine ax_load (q := 4) rfl rfl rfl rfl rfl ?_
    refine ax_icmp_ge (q := 7) (x := 37) rfl rfl (fun h => absurd h (by omega)) (fun h4 => ?_)
    refine ax_load (q := 8) rfl rfl rfl rfl rfl ?_
    refine ax_load (q := 9) rfl rfl rfl rfl rfl ?_
    refine ax_alen (q := 10) (m := 4) rfl rfl rfl (by decide) ?_
    refine ax_icmp_ge (q := 13) (x := 37) rfl rfl (fun h => absurd h (by omega)) (fun h10 => ?_)
    refine ax_load (q := 14) rfl rfl rfl rfl rfl ?_
    refine ax_load (q := 15) rfl rfl rfl rfl rfl ?_
    refine ax_getf (q := 18) (v := am_R 134) rfl rfl (rfl) ?_
    refine ax_alen (q := 19) (m := 8) rfl rfl rfl (by decide) ?_
    refine ax_icmp_ge (q := 22) (x := 37) rfl rfl (fun h => absurd h (by omega)) (fun h19 => ?_)
    refine ax_load (q := 23) rfl rfl rfl rfl rfl ?_
    refine ax_getf (q := 26) (v := am_R 134) rfl rfl (rfl) ?_
    refine ax_load (q := 27) rfl rfl rfl rfl rfl ?_
    refine ax_load (q := 28) rfl rfl rfl rfl rfl ?_
    refine ax_load (q := 29) rfl rfl rfl rfl rfl ?_
    refine bx_iald (q := 30) (k := k) (z := σ.1 120 k) rfl rfl (rfl) (by omega) (by omega) (by rw [hf.1 120 (by decide)]) ?_
    refine bx_iast (q := 31) (k := k) rfl rfl (rfl) (by omega) (by omega) ?_
    refine ax_iinc (q := 34) (z' := ((k + 1 : Nat) : Int)) (L' := [some (am_R 0), some (am_R 120), some (am_I ((n : Nat) : Int)), some (am_I ((k + 1 : Nat) : Int))]) rfl rfl rfl rfl (am_we (by omega) (by omega) (by omega)) rfl ?_
    refine ax_goto (x := 2) rfl ?_
    refine ih (k + 1) (by omega) _ (fr_sI hf (List.mem_singleton.mpr rfl)) (fun j hj => ?_)
    rw [sI_at]
    by_cases q : j = k
    · rw [q, am_up_same]
    · rw [am_up_ne q]; exact hc j (by omega)

theorem x_lay120 {d : Nat} (hd : 1 ≤ d) {σ : am_S} {n : Nat} (hn : n ≤ 4) {Q : Option am_V → am_S → Prop} (hQ : ∀ σ', l0_ [134] σ σ' → σ'.1 0 14 = ((n : Nat) : Int) → (∀ k, k < n → σ'.1 134 k = σ.1 120 k) → Q none σ') : am_Ev d 118 [am_R 0, am_R 120, am_I ((n : Nat) : Int)] σ Q := by
  obtain ⟨d, rfl⟩ : ∃ e, d = e + 1 := ⟨d - 1, by omega⟩
  refine ev_in (m := 118) (c := k_X8_lay) (L := [some (am_R 0), some (am_R 120), some (am_I ((n : Nat) : Int)), none]) rfl rfl rfl rfl rfl rfl ?_
  refine ax_const (q := 1) (v := am_I 0) rfl rfl rfl ?_
  refine ax_store (q := 2) (L' := [some (am_R 0), some (am_R 120), some (am_I ((n : Nat) : Int)), some (am_I 0)]) rfl rfl rfl rfl rfl rfl ?_
  exact xl_lay120 hn hQ n 0 (by omega) σ (fr_rf _ _) (fun j hj => absurd hj (by omega))

theorem xl_lay124 {d : Nat} {σ : am_S} {n : Nat} (hn : n ≤ 6) {Q : Option am_V → am_S → Prop} (hQ : ∀ σ', l0_ [134] σ σ' → σ'.1 0 14 = ((n : Nat) : Int) → (∀ k, k < n → σ'.1 134 k = σ.1 124 k) → Q none σ') : ∀ (m k : Nat), k + m = n → ∀ σ', fr_ [134] σ σ' → (∀ j, j < k → σ'.1 134 j = σ.1 124 j) → aW d 4 k_X8_lay Q 2 [some (am_R 0), some (am_R 124), some (am_I ((n : Nat) : Int)), some (am_I ((k : Nat) : Int))] [] σ' := by
  intro m
  induction m with
  | zero =>
    intro k hk σ' hf hc
    obtain hk2 : k = n := by omega
    subst hk2
    refine ax_load (q := 3) rfl rfl rfl rfl rfl ?_
    refine ax_load (q := 4) rfl rfl rfl rfl rfl ?_
    refine ax_icmp_ge (q := 7) (x := 37) rfl rfl (fun h4 => ?_) (fun h => absurd h (by omega))
    refine ax_load (q := 38) rfl rfl rfl rfl rfl ?_
    refine ax_load (q := 39) rfl rfl rfl rfl rfl ?_
    refine ax_putf (q := 42) rfl rfl rfl ?_
    refine ax_ret (r := none) rfl rfl ?_
    refine hQ _ (l0_tr (l0_fr hf (by decide)) (l0_s [134]) (fun a h => h) (fun a h => h)) (by rw [sI_at, am_up_same]) (fun j hj => by rw [sI_ne (by decide)]; exact hc j hj)
  | succ m ih =>
    intro k hk σ' hf hc
    refine ax_load (q := 3) rfl rfl rfl rfl rfl ?_
    refine ax_load (q := 4) rfl rfl rfl rfl rfl ?_
    refine ax_icmp_ge (q := 7) (x := 37) rfl rfl (fun h => absurd h (by omega)) (fun h4 => ?_)
    refine ax_load (q := 8) rfl rfl rfl rfl rfl ?_
    refine ax_load (q := 9) rfl rfl rfl rfl rfl ?_
    refine ax_alen (q := 10) (m := 6) rfl rfl rfl (by decide) ?_
    refine ax_icmp_ge (q := 13) (x := 37) rfl rfl (fun h => absurd h (by omega)) (fun h10 => ?_)
    refine ax_load (q := 14) rfl rfl rfl rfl rfl ?_
    refine ax_load (q := 15) rfl rfl rfl rfl rfl ?_
    refine ax_getf (q := 18) (v := am_R 134) rfl rfl (rfl) ?_
    refine ax_alen (q := 19) (m := 8) rfl rfl rfl (by decide) ?_
    refine ax_icmp_ge (q := 22) (x := 37) rfl rfl (fun h => absurd h (by omega)) (fun h19 => ?_)
    refine ax_load (q := 23) rfl rfl rfl rfl rfl ?_
    refine ax_getf (q := 26) (v := am_R 134) rfl rfl (rfl) ?_
    refine ax_load (q := 27) rfl rfl rfl rfl rfl ?_
    refine ax_load (q := 28) rfl rfl rfl rfl rfl ?_
    refine ax_load (q := 29) rfl rfl rfl rfl rfl ?_
    refine bx_iald (q := 30) (k := k) (z := σ.1 124 k) rfl rfl (rfl) (by omega) (by omega) (by rw [hf.1 124 (by decide)]) ?_
    refine bx_iast (q := 31) (k := k) rfl rfl (rfl) (by omega) (by omega) ?_
    refine ax_iinc (q := 34) (z' := ((k + 1 : Nat) : Int)) (L' := [some (am_R 0), some (am_R 124), some (am_I ((n : Nat) : Int)), some (am_I ((k + 1 : Nat) : Int))]) rfl rfl rfl rfl (am_we (by omega) (by omega) (by omega)) rfl ?_
    refine ax_goto (x := 2) rfl ?_
    refine ih (k + 1) (by omega) _ (fr_sI hf (List.mem_singleton.mpr rfl)) (fun j hj => ?_)
    rw [sI_at]
    by_cases q : j = k
    · rw [q, am_up_same]
    · rw [am_up_ne q]; exact hc j (by omega)

theorem x_lay124 {d : Nat} (hd : 1 ≤ d) {σ : am_S} {n : Nat} (hn : n ≤ 6) {Q : Option am_V → am_S → Prop} (hQ : ∀ σ', l0_ [134] σ σ' → σ'.1 0 14 = ((n : Nat) : Int) → (∀ k, k < n → σ'.1 134 k = σ.1 124 k) → Q none σ') : am_Ev d 118 [am_R 0, am_R 124, am_I ((n : Nat) : Int)] σ Q := by
  obtain ⟨d, rfl⟩ : ∃ e, d = e + 1 := ⟨d - 1, by omega⟩
  refine ev_in (m := 118) (c := k_X8_lay) (L := [some (am_R 0), some (am_R 124), some (am_I ((n : Nat) : Int)), none]) rfl rfl rfl rfl rfl rfl ?_
  refine ax_const (q := 1) (v := am_I 0) rfl rfl rfl ?_
  refine ax_store (q := 2) (L' := [some (am_R 0), some (am_R 124), some (am_I ((n : Nat) : Int)), some (am_I 0)]) rfl rfl rfl rfl rfl rfl ?_
  exact xl_lay124 hn hQ n 0 (by omega) σ (fr_rf _ _) (fun j hj => absurd hj (by omega))

theorem x_life {d : Nat} (hd : 8 ≤ d) {σ : am_S} {t : Nat} {T : sp_T} {v : sp_V} (hL : PL_ 68 t T v σ) (hV : TV_ T) {b : Int} (hW : VV_ T b v) (hb9 : b < 900000) {a : Int} {Q : Option am_V → am_S → Prop} (hN : lc_ T v a = false → ∀ σ', l0_ [119, 120, 121, 122, 134, t + 31] σ σ' → σ'.1 0 14 = 0 → Q (some (am_I (-1))) σ') (hY : lc_ T v a = true → ∀ σ', l0_ [119, 120, 121, 122, 134, t + 31] σ σ' → σ'.1 0 14 = (nS_ T : Int) → (∀ k, k < nS_ T → σ'.1 134 k = ((lf_ T v a.toNat).2.getD k 0 : Int)) → Q (some (am_I (lf_ T v a.toNat).1)) σ') : am_Ev d 117 [am_R 0, am_I a] σ Q := by
  obtain ⟨d, rfl⟩ : ∃ e, d = e + 1 := ⟨d - 1, by omega⟩
  have ht := hL.ht
  obtain ⟨σ0, h0⟩ : ∃ s, s = (am_sI σ 0 (am_up (σ.1 0) 14 0)) := ⟨_, rfl⟩
  have hl0 : l0_ [119, 120, 121, 122, 134, t + 31] σ σ0 := by rw [h0]; exact l0_s _
  have hL0 : PL_ 68 t T v σ0 := hL.l0 hl0 (by intro a ha; simp at ha; omega)
  have z0 : σ0.1 0 14 = 0 := by rw [h0, sI_at, am_up_same]
  have h6 := hV.nP
  have hO8 := hV.nO
  have hS4 := hV.nS
  have hR3 := hV.nR
  refine ev_in (m := 117) (c := k_X8_life) (L := [some (am_R 0), some (am_I a), none]) rfl rfl rfl rfl rfl rfl ?_
  refine ax_load (q := 1) rfl rfl rfl rfl rfl ?_
  refine ax_const (q := 2) (v := am_I 0) rfl rfl rfl ?_
  refine ax_putf (q := 5) rfl rfl rfl ?_
  show aW d 0 k_X8_life Q 5 _ [] (am_sI σ 0 (am_up (σ.1 0) 14 0))
  rw [← h0]
  refine ax_load (q := 6) rfl rfl rfl rfl rfl ?_
  refine ax_load (q := 7) rfl rfl rfl rfl rfl ?_
  refine ax_callv (q := 10) rfl rfl rfl rfl rfl rfl ?_
  refine x_isUnopened (by omega) hL0 hV ?_
  refine ax_if_eq (q := 13) (x := 26) rfl rfl (fun h10 => ?_) (fun h10 => ?_)
  · have hb10 := it_0 h10
    refine ax_const (q := 27) (v := am_I (-1)) rfl rfl rfl ?_
    refine ax_ret (r := some (am_I (-1))) rfl rfl ?_
    exact hN (by unfold lc_; rw [hb10]; rfl) _ hl0 z0
  · have hb10 := it_n0 h10
    obtain ⟨p, rfl, hp, hsh⟩ := sn_t hb10
    refine ax_load (q := 14) rfl rfl rfl rfl rfl ?_
    refine ax_getf (q := 17) (v := am_R 68) rfl rfl (rfl) ?_
    refine ax_load (q := 18) rfl rfl rfl rfl rfl ?_
    refine ax_callv (q := 21) rfl rfl rfl rfl rfl rfl ?_
    refine x_yearsTillOpened (by omega) hL0 hV hp hW (by omega) ?_
    refine ax_const (q := 23) (v := am_I 12) rfl rfl rfl ?_
    refine ax_icmp_le (q := 26) (x := 28) rfl rfl (fun h23 => ?_) (fun h23 => ?_)
    · refine ax_load (q := 29) rfl rfl rfl rfl rfl ?_
      refine ax_getf (q := 32) (v := am_R 119) rfl rfl (rfl) ?_
      refine ax_load (q := 33) rfl rfl rfl rfl rfl ?_
      refine ax_callv (q := 36) rfl rfl rfl rfl rfl rfl ?_
      by_cases hn0 : nS_ T = 0
      · refine x_best0 (by omega) hL0 hV hW hb9 hp hn0 (fun σ1 hf1 => ?_)
        refine ax_store (q := 37) (L' := [some (am_R 0), some (am_I ((p : Nat) : Int)), some (am_I (-1))]) rfl rfl rfl rfl rfl rfl ?_
        refine ax_load (q := 38) rfl rfl rfl rfl rfl ?_
        refine ax_const (q := 39) (v := am_I (-1)) rfl rfl rfl ?_
        refine ax_icmp_eq (q := 42) (x := 65) rfl rfl (fun h39 => ?_) (fun h => absurd rfl h)
        refine ax_load (q := 66) rfl rfl rfl rfl rfl ?_
        refine ax_ret (r := some (am_I (-1))) rfl rfl ?_
        exact hN (by unfold lc_; rw [decide_eq_false (show ¬ ¬ nS_ T = 0 by omega), Bool.and_false, Bool.and_false]) _ (l0_tr hl0 (l0_fr hf1 (by simp)) (fun a h => h) (by intro a ha; simp at ha ⊢; omega)) (by rw [hf1.1 0 (by simp)]; exact z0)
      · refine x_best (by omega) hL0 hV hW hb9 hp (by omega) (by omega) (fun σ1 hf1 hb1 hge => ?_)
        have hl1 : l0_ [119, 120, 121, 122, 134, t + 31] σ σ1 := l0_tr hl0 (l0_fr hf1 (by simp)) (fun a h => h) (by intro a ha; simp at ha ⊢; omega)
        have hL1 : PL_ 68 t T v σ1 := hL.l0 hl1 (by intro a ha; simp at ha; omega)
        refine ax_store (q := 37) (L' := [some (am_R 0), some (am_I ((p : Nat) : Int)), some (am_I ((lf_ T v p).1))]) rfl rfl rfl rfl rfl rfl ?_
        refine ax_load (q := 38) rfl rfl rfl rfl rfl ?_
        refine ax_const (q := 39) (v := am_I (-1)) rfl rfl rfl ?_
        refine ax_icmp_eq (q := 42) (x := 65) rfl rfl (fun h39 => ?_) (fun h39 => ?_)
        · refine ax_load (q := 66) rfl rfl rfl rfl rfl ?_
          exfalso
          omega
        · refine ax_load (q := 43) rfl rfl rfl rfl rfl ?_
          refine ax_load (q := 44) rfl rfl rfl rfl rfl ?_
          refine ax_getf (q := 47) (v := am_R 119) rfl rfl (rfl) ?_
          refine ax_getf (q := 50) (v := am_R 120) rfl rfl (rfl) ?_
          refine ax_load (q := 51) rfl rfl rfl rfl rfl ?_
          refine ax_getf (q := 54) (v := am_R 68) rfl rfl (rfl) ?_
          refine ax_getf (q := 57) (v := am_R t) rfl rfl (am_fgR rfl hL1.to) ?_
          refine ax_getf (q := 60) (v := am_R (t + 1)) rfl rfl (xg7_0 hL1.xt.ht) ?_
          refine ax_const (q := 61) (v := am_I 1) rfl rfl rfl ?_
          refine bx_iald (q := 62) (k := 1) (z := (((nS_ T) : Nat) : Int)) rfl rfl (kd_1 hL1.xt.ht) (by omega) (by omega) (hL1.xt.c1.trans hV.nS.1) ?_
          refine ax_callv (q := 65) rfl rfl rfl rfl rfl rfl ?_
          refine x_lay120 (by omega) (by omega) (fun σ2 hf2 h14 h134 => ?_)
          have hl2 : l0_ [119, 120, 121, 122, 134, t + 31] σ σ2 := l0_tr hl1 hf2 (fun a h => h) (by intro a ha; simp at ha ⊢; omega)
          refine ax_load (q := 66) rfl rfl rfl rfl rfl ?_
          refine ax_ret (r := some (am_I ((lf_ T v p).1))) rfl rfl ?_
          have hc : lc_ T v (p : Int) = true := by unfold lc_; rw [hb10, Int.toNat_natCast, decide_eq_true (show yf_ T v p ≤ 12 by omega), decide_eq_true (show ¬ nS_ T = 0 by omega)]; rfl
          have g := hY hc σ2 hl2 h14
          rw [Int.toNat_natCast] at g
          exact g (fun k hk => by rw [h134 k hk]; exact hb1 k hk)
    · refine ax_const (q := 27) (v := am_I (-1)) rfl rfl rfl ?_
      refine ax_ret (r := some (am_I (-1))) rfl rfl ?_
      exact hN (by unfold lc_; rw [Int.toNat_natCast, decide_eq_false (show ¬ yf_ T v p ≤ 12 by omega), Bool.false_and, Bool.and_false]) _ hl0 z0

