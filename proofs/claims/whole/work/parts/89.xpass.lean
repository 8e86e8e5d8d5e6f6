theorem PL_.up {q t : Nat} {T : sp_T} {v w : sp_V} {σ σ' : am_S} (h : PL_ q t T v σ) (hf : fr_ [q + 1, t + 31] σ σ') (hr : RW_x T w (σ'.1 (q + 1))) : PL_ q t T w σ' :=
  ⟨h.hq, by rw [hf.2]; exact h.to, h.xt.fr (fun a h1 h2 => hf.1 a (by have := h.hq; have := h.ht; simp; omega)), hr⟩
theorem DN_.ln {T : sp_T} {v : sp_V} (h : DN_ T v) (h6 : nP_ T ≤ 6) {p : Nat} (hp : p < 6) {s : Int} (hs : s < 4) : DN_ T (ln_ T v p s) := h.cg (fun j hj => ⟨ln_at (by omega) hp hs, ln_at (by omega) hp hs⟩) (ln_at (by omega) hp hs)
theorem DN_.ag {T : sp_T} {v : sp_V} (h : DN_ T v) (h6 : nP_ T ≤ 6) {p : Nat} (hp : p < 6) {z : Int} : DN_ T (am_up v p z) := h.cg (fun j hj => ⟨am_up_ne (by omega), am_up_ne (by omega)⟩) (am_up_ne (by omega))
theorem DN_.yr {T : sp_T} {v : sp_V} (h : DN_ T v) (h6 : nP_ T ≤ 6) {z : Int} : DN_ T (am_up v 49 z) := h.cg (fun j hj => ⟨am_up_ne (by omega), am_up_ne (by omega)⟩) (am_up_ne (by omega))

theorem xl_passYear {d : Nat} (hd : 4 ≤ d) {σ : am_S} {q t : Nat} {T : sp_T} {v : sp_V} (hL : PL_ q t T v σ) (hV : TV_ T) {b : Int} (hW : VV_ T b v) (hb9 : b < 990000) (hD : DN_ T v) {Q : Option am_V → am_S → Prop} (hQ : ∀ σ', fr_ [q + 1, t + 31] σ σ' → PL_ q t T (yr_ T v) σ' → DN_ T (yr_ T v) → Q (some (am_I ((yo_ T v : Nat) : Int))) σ') : ∀ (m k : Nat), k + m = nP_ T → ∀ σ', fr_ [q + 1, t + 31] σ σ' → PL_ q t T (yl_ T v k).1 σ' → DN_ T (yl_ T v k).1 → aW d 0 k_X2_passYear Q 4 [some (am_R q), some (am_I (((yl_ T v k).2 : Nat) : Int)), some (am_I ((k : Nat) : Int))] [] σ' := by
  have ht := hL.ht
  have hq := hL.hq
  have h6 := hV.nP
  have hO8 := hV.nO
  have hS4 := hV.nS
  have hoa := hV.oa
  intro m
  induction m with
  | zero =>
    intro k hk σ' hf hL2 hD2
    obtain rfl : k = nP_ T := by omega
    obtain ⟨i1, i2, i3, i4⟩ := yl_in hW hV (nP_ T) (Nat.le_refl _)
    have hy := hW.1
    refine ax_load (q := 5) rfl rfl rfl rfl rfl ?_
    refine ax_load (q := 6) rfl rfl rfl rfl rfl ?_
    refine ax_getf (q := 9) (v := am_R t) rfl rfl (am_fgR (xg2_1 hL.hq) hL2.to) ?_
    refine ax_getf (q := 12) (v := am_R (t + 1)) rfl rfl (xg7_0 hL2.xt.ht) ?_
    refine ax_const (q := 13) (v := am_I 0) rfl rfl rfl ?_
    refine bx_iald (q := 14) (k := 0) (z := (((nP_ T) : Nat) : Int)) rfl rfl (kd_1 hL2.xt.ht) (by omega) (by omega) (hL2.xt.c0.trans hV.nP.1) ?_
    refine ax_icmp_ge (q := 17) (x := 74) rfl rfl (fun h14 => ?_) (fun h => absurd h (by omega))
    refine ax_load (q := 75) rfl rfl rfl rfl rfl ?_
    refine ax_getf (q := 78) (v := am_R (q + 1)) rfl rfl (xg2_0 hL.hq) ?_
    refine ax_const (q := 80) (v := am_I 48) rfl rfl rfl ?_
    refine ax_dup2 (q := 81) rfl rfl rfl rfl ?_
    refine bx_iald (q := 82) (k := 48) (z := (yl_ T v (nP_ T)).1 49) rfl rfl (kd_q1 hL.hq) (by omega) (by omega) (hL2.rw.yr) ?_
    refine ax_const (q := 83) (v := am_I 1) rfl rfl rfl ?_
    refine ax_iadd (q := 84) (z := (yl_ T v (nP_ T)).1 49 + 1) rfl rfl (am_we (by omega) (by omega) (by omega)) ?_
    refine bx_iast (q := 85) (k := 48) rfl rfl (kd_q1 hL.hq) (by omega) (by omega) ?_
    refine ax_load (q := 86) rfl rfl rfl rfl rfl ?_
    refine ax_ret (r := some (am_I (((yl_ T v (nP_ T)).2 : Nat) : Int))) rfl rfl ?_
    have e : yr_ T v = am_up (yl_ T v (nP_ T)).1 49 ((yl_ T v (nP_ T)).1 49 + 1) := by unfold yr_; rw [i3]
    have hfe : fr_ [q + 1, t + 31] σ' (am_sI σ' (q + 1) (am_up (σ'.1 (q + 1)) 48 ((yl_ T v (nP_ T)).1 49 + 1))) := fr_sI (fr_rf _ _) (by simp)
    refine hQ _ (fr_tr hf hfe (by simp)) ?_ ?_
    · rw [e]
      exact hL2.up hfe (by rw [sI_at]; exact hL2.rw.yr_ h6.2)
    · rw [e]
      exact hD2.yr h6.2
  | succ m ih =>
    intro k hk σ' hf hL2 hD2
    have hkn : k < nP_ T := by omega
    obtain ⟨i1, i2, i3, i4⟩ := yl_in hW hV k (by omega)
    have hws := (i1.2.2 k hkn).2.2.2.1
    have hage := i4 k (Nat.le_refl _) hkn
    have hwa := (hW.2.2 k hkn).1
    have hstep : yl_ T v (k + 1) = yp_ T k (yl_ T v k) := rfl
    refine ax_load (q := 5) rfl rfl rfl rfl rfl ?_
    refine ax_load (q := 6) rfl rfl rfl rfl rfl ?_
    refine ax_getf (q := 9) (v := am_R t) rfl rfl (am_fgR (xg2_1 hL.hq) hL2.to) ?_
    refine ax_getf (q := 12) (v := am_R (t + 1)) rfl rfl (xg7_0 hL2.xt.ht) ?_
    refine ax_const (q := 13) (v := am_I 0) rfl rfl rfl ?_
    refine bx_iald (q := 14) (k := 0) (z := (((nP_ T) : Nat) : Int)) rfl rfl (kd_1 hL2.xt.ht) (by omega) (by omega) (hL2.xt.c0.trans hV.nP.1) ?_
    refine ax_icmp_ge (q := 17) (x := 74) rfl rfl (fun h => absurd h (by omega)) (fun h14 => ?_)
    refine ax_load (q := 18) rfl rfl rfl rfl rfl ?_
    refine ax_load (q := 19) rfl rfl rfl rfl rfl ?_
    refine ax_callv (q := 22) rfl rfl rfl rfl rfl (kd_q hL.hq) ?_
    refine x_isOpened (by omega) hL2 hV hkn ?_
    refine ax_if_ne (q := 25) (x := 68) rfl rfl (fun h22 => ?_) (fun h22 => ?_)
    · have hb := nt_n0 h22
      refine ax_iinc (q := 71) (z' := ((k + 1 : Nat) : Int)) (L' := [some (am_R q), some (am_I (((yl_ T v k).2 : Nat) : Int)), some (am_I ((k + 1 : Nat) : Int))]) rfl rfl rfl rfl (am_we (by omega) (by omega) (by omega)) rfl ?_
      refine ax_goto (x := 4) rfl ?_
      have e : yl_ T v (k + 1) = yl_ T v k := by rw [hstep]; exact if_neg (by rw [hb]; decide)
      have g := ih (k + 1) (by omega) σ'
      rw [e] at g
      exact g hf hL2 hD2
    · have hb := nt_0 h22
      refine ax_load (q := 26) rfl rfl rfl rfl rfl ?_
      refine ax_load (q := 27) rfl rfl rfl rfl rfl ?_
      refine ax_callv (q := 30) rfl rfl rfl rfl rfl (kd_q hL.hq) ?_
      refine x_learn (by omega) hL2 hV i1 (by omega) hkn (fun σ1 hf1 hr1 => ?_)
      have hL3 := hL2.up hf1 hr1
      have hlk : ln_ T (yl_ T v k).1 k ((yl_ T v k).1 (18 + k)) k = (yl_ T v k).1 k := ln_at (by omega) (by omega) (by omega)
      refine ax_load (q := 31) rfl rfl rfl rfl rfl ?_
      refine ax_getf (q := 34) (v := am_R (q + 1)) rfl rfl (xg2_0 hL.hq) ?_
      refine ax_const (q := 35) (v := am_I 0) rfl rfl rfl ?_
      refine ax_load (q := 36) rfl rfl rfl rfl rfl ?_
      refine ax_iadd (q := 37) (z := ((0 + k : Nat) : Int)) rfl rfl (am_we (by omega) (by omega) (by omega)) ?_
      refine ax_dup2 (q := 38) rfl rfl rfl rfl ?_
      refine bx_iald (q := 39) (k := 0 + k) (z := (ln_ T (yl_ T v k).1 k ((yl_ T v k).1 (18 + k))) k) rfl rfl (kd_q1 hL.hq) (by omega) (by omega) ((by rw [Nat.zero_add]; exact hL3.rw.ag _ (by omega))) ?_
      refine ax_const (q := 40) (v := am_I 1) rfl rfl rfl ?_
      refine ax_iadd (q := 41) (z := (ln_ T (yl_ T v k).1 k ((yl_ T v k).1 (18 + k))) k + 1) rfl rfl (am_we (by omega) (by omega) (by omega)) ?_
      refine bx_iast (q := 42) (k := 0 + k) rfl rfl (kd_q1 hL.hq) (by omega) (by omega) ?_
      obtain ⟨w, hw⟩ : ∃ w, w = am_up (ln_ T (yl_ T v k).1 k ((yl_ T v k).1 (18 + k))) k (ln_ T (yl_ T v k).1 k ((yl_ T v k).1 (18 + k)) k + 1) := ⟨_, rfl⟩
      obtain ⟨σ2, h2⟩ : ∃ s, s = (am_sI σ1 (q + 1) (am_up (σ1.1 (q + 1)) (0 + k) ((ln_ T (yl_ T v k).1 k ((yl_ T v k).1 (18 + k))) k + 1))) := ⟨_, rfl⟩
      rw [← h2]
      have hf2 : fr_ [q + 1, t + 31] σ' σ2 := by rw [h2]; exact fr_sI hf1 (by simp)
      have hr2 : RW_x T w (σ2.1 (q + 1)) := by rw [h2, sI_at, Nat.zero_add, hw]; exact hL3.rw.ag_ h6.2 hkn
      have hL4 := hL2.up hf2 hr2
      have hsh : w (12 + k) < 2 := by rw [hw, am_up_ne (by omega), ln_at (by omega) (by omega) (by omega)]; exact of_decide_eq_true hb
      have hD4 : DN_ T w := by rw [hw]; exact (hD2.ln h6.2 (by omega) (by omega)).ag h6.2 (by omega)
      have hW4 : VV_ T (b + 1) w := by rw [hw]; exact (i1.ln hV hkn hws.2).ag1 hV hkn (by rw [hlk, hage]; omega)
      have hwk : w k = (yl_ T v k).1 k + 1 := by rw [hw, am_up_same, hlk]
      refine ax_load (q := 43) rfl rfl rfl rfl rfl ?_
      refine ax_getf (q := 46) (v := am_R (q + 1)) rfl rfl (xg2_0 hL.hq) ?_
      refine ax_const (q := 47) (v := am_I 0) rfl rfl rfl ?_
      refine ax_load (q := 48) rfl rfl rfl rfl rfl ?_
      refine ax_iadd (q := 49) (z := ((0 + k : Nat) : Int)) rfl rfl (am_we (by omega) (by omega) (by omega)) ?_
      refine bx_iald (q := 50) (k := 0 + k) (z := w k) rfl rfl (kd_q1 hL.hq) (by omega) (by omega) ((by rw [Nat.zero_add]; exact hL4.rw.ag _ (by omega))) ?_
      refine ax_load (q := 51) rfl rfl rfl rfl rfl ?_
      refine ax_getf (q := 54) (v := am_R t) rfl rfl (am_fgR (xg2_1 hL.hq) hL4.to) ?_
      refine ax_getf (q := 57) (v := am_I (T 135 55)) rfl rfl (am_fg (xg7_10 hL4.xt.ht) hL4.xt.opa) ?_
      refine ax_icmp_lt (q := 60) (x := 68) rfl rfl (fun h57 => ?_) (fun h57 => ?_)
      · refine ax_iinc (q := 71) (z' := ((k + 1 : Nat) : Int)) (L' := [some (am_R q), some (am_I (((yl_ T v k).2 : Nat) : Int)), some (am_I ((k + 1 : Nat) : Int))]) rfl rfl rfl rfl (am_we (by omega) (by omega) (by omega)) rfl ?_
        refine ax_goto (x := 4) rfl ?_
        have e : yl_ T v (k + 1) = (w, (yl_ T v k).2) := by rw [hstep]; unfold yp_; rw [if_pos hb, ← hw]; exact if_pos (by omega)
        have g := ih (k + 1) (by omega) σ2
        rw [e] at g
        exact g (fr_tr hf hf2 (by simp)) hL4 hD4
      · refine ax_load (q := 61) rfl rfl rfl rfl rfl ?_
        refine ax_load (q := 62) rfl rfl rfl rfl rfl ?_
        refine ax_callv (q := 65) rfl rfl rfl rfl rfl (kd_q hL.hq) ?_
        refine x_openLetter (by omega) hL4 hV hW4 hD4 hkn (fun x hx => ?_)
        refine ax_iinc (q := 68) (z' := ((((yl_ T v k).2) + 1 : Nat) : Int)) (L' := [some (am_R q), some (am_I ((((yl_ T v k).2) + 1 : Nat) : Int)), some (am_I ((k : Nat) : Int))]) rfl rfl rfl rfl (am_we (by omega) (by omega) (by omega)) rfl ?_
        refine ax_iinc (q := 71) (z' := ((k + 1 : Nat) : Int)) (L' := [some (am_R q), some (am_I ((((yl_ T v k).2) + 1 : Nat) : Int)), some (am_I ((k + 1 : Nat) : Int))]) rfl rfl rfl rfl (am_we (by omega) (by omega) (by omega)) rfl ?_
        refine ax_goto (x := 4) rfl ?_
        have e : yl_ T v (k + 1) = (op_ T w k, (yl_ T v k).2 + 1) := by rw [hstep]; unfold yp_; rw [if_pos hb, ← hw]; exact if_neg (by omega)
        have g := ih (k + 1) (by omega) (am_sI σ2 (q + 1) x)
        rw [e] at g
        have hf5 : fr_ [q + 1, t + 31] σ2 (am_sI σ2 (q + 1) x) := fr_sI (fr_rf _ _) (by simp)
        exact g (fr_tr (fr_tr hf hf2 (by simp)) hf5 (by simp)) (hL4.up hf5 (by rw [sI_at]; exact hx)) (hD4.op hV hkn hsh)

theorem x_passYear {d : Nat} (hd : 5 ≤ d) {σ : am_S} {q t : Nat} {T : sp_T} {v : sp_V} (hL : PL_ q t T v σ) (hV : TV_ T) {b : Int} (hW : VV_ T b v) (hb9 : b < 990000) (hD : DN_ T v) {Q : Option am_V → am_S → Prop} (hQ : ∀ σ', fr_ [q + 1, t + 31] σ σ' → PL_ q t T (yr_ T v) σ' → DN_ T (yr_ T v) → Q (some (am_I ((yo_ T v : Nat) : Int))) σ') : am_Ev d 23 [am_R q] σ Q := by
  obtain ⟨d, rfl⟩ : ∃ e, d = e + 1 := ⟨d - 1, by omega⟩
  refine ev_in (m := 23) (c := k_X2_passYear) (L := [some (am_R q), none, none]) rfl rfl rfl rfl rfl rfl ?_
  refine ax_const (q := 1) (v := am_I 0) rfl rfl rfl ?_
  refine ax_store (q := 2) (L' := [some (am_R q), some (am_I 0), none]) rfl rfl rfl rfl rfl rfl ?_
  refine ax_const (q := 3) (v := am_I 0) rfl rfl rfl ?_
  refine ax_store (q := 4) (L' := [some (am_R q), some (am_I 0), some (am_I 0)]) rfl rfl rfl rfl rfl rfl ?_
  exact xl_passYear (by omega) hL hV hW hb9 hD hQ (nP_ T) 0 (by omega) σ (fr_rf _ _) hL hD

theorem cpy_0 (f g : Nat → Int) {n j : Nat} (h : j < n) : va_cpy f g 0 0 n j = f j := by
  unfold va_cpy
  simp [h]

theorem x_copy {d : Nat} (hd : 1 ≤ d) {σ : am_S} {t : Nat} {T : sp_T} {v : sp_V} (hL : PL_ 68 t T v σ) (h6 : nP_ T ≤ 6) {Q : Option am_V → am_S → Prop} (hQ : ∀ σ', (∀ a, a ≠ 71 → σ'.1 a = σ.1 a) → (∀ a k, ¬ (a = 70 ∧ k = 1) → σ'.2.2.1 a k = σ.2.2.1 a k) → σ'.2.1 = σ.2.1 → σ'.2.2.2 = σ.2.2.2 → PL_ 70 t T v σ' → Q none σ') : am_Ev d 13 [am_R 70, am_R 68] σ Q := by
  obtain ⟨d, rfl⟩ : ∃ e, d = e + 1 := ⟨d - 1, by omega⟩
  refine ev_in (m := 13) (c := k_X2_copy) (L := [some (am_R 70), some (am_R 68)]) rfl rfl rfl rfl rfl rfl ?_
  refine ax_load (q := 1) rfl rfl rfl rfl rfl ?_
  refine ax_load (q := 2) rfl rfl rfl rfl rfl ?_
  refine ax_getf (q := 5) (v := am_R t) rfl rfl (am_fgR rfl hL.to) ?_
  refine ax_putf (q := 8) rfl rfl rfl ?_
  refine ax_load (q := 9) rfl rfl rfl rfl rfl ?_
  refine ax_getf (q := 12) (v := am_R 69) rfl rfl (rfl) ?_
  refine ax_const (q := 13) (v := am_I 0) rfl rfl rfl ?_
  refine ax_load (q := 14) rfl rfl rfl rfl rfl ?_
  refine ax_getf (q := 17) (v := am_R 71) rfl rfl (rfl) ?_
  refine ax_const (q := 18) (v := am_I 0) rfl rfl rfl ?_
  refine ax_const (q := 20) (v := am_I 49) rfl rfl rfl ?_
  refine ax_copy (q := 23) rfl rfl rfl rfl rfl (by decide) (by decide) (by decide) (by decide) (by decide) ?_
  refine ax_ret (r := none) rfl rfl ?_
  refine hQ _ (fun a ha => sI_ne ha) (fun a k hk => ?_) rfl rfl ⟨Or.inr rfl, ?_, hL.xt.fr (fun a h1 h2 => sI_ne (by have := hL.ht; omega)), ?_⟩
  · show am_up σ.2.2.1 70 (am_up (σ.2.2.1 70) 1 (some t)) a k = _
    by_cases q : a = 70
    · subst q; rw [am_up_same, am_up_ne (fun w => hk ⟨rfl, w⟩)]
    · rw [am_up_ne q]
  · show am_up σ.2.2.1 70 (am_up (σ.2.2.1 70) 1 (some t)) 70 1 = _
    rw [am_up_same, am_up_same]
  · rw [sI_at]
    have hr := hL.rw
    exact ⟨(cpy_0 _ _ (by decide)).trans hr.yr, fun p hp => (cpy_0 _ _ (by omega)).trans (hr.ag p hp), fun p hp => (cpy_0 _ _ (by omega)).trans (hr.hw p hp), fun p hp => (cpy_0 _ _ (by omega)).trans (hr.pr p hp), fun p hp => (cpy_0 _ _ (by omega)).trans (hr.hd p hp), fun p s hp hs => (cpy_0 _ _ (by omega)).trans (hr.lv p s hp hs)⟩

