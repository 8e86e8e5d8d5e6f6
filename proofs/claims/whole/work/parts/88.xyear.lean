theorem up2_ {x v : Nat → Int} {i i' j j' : Nat} {l : Int} (h : j = i ↔ j' = i') (hx : x j = v j') : am_up x i l j = am_up v i' l j' := by
  by_cases q : j = i
  · rw [q, h.mp q, am_up_same, am_up_same]
  · rw [am_up_ne q, am_up_ne (fun w => q (h.mpr w))]; exact hx

theorem RW_x.lv_ {T : sp_T} {v : sp_V} {x : Nat → Int} (h : RW_x T v x) (h6 : nP_ T ≤ 6) {p s : Nat} (hp : p < nP_ T) (hs : s < 4) {l : Int} : RW_x T (am_up v (24 + 4 * p + s) l) (am_up x (24 + 4 * p + s) l) :=
  ⟨up2_ (by omega) h.yr, fun j hj => up2_ (by omega) (h.ag j hj), fun j hj => up2_ (by omega) (h.hw j hj), fun j hj => up2_ (by omega) (h.pr j hj), fun j hj => up2_ (by omega) (h.hd j hj), fun j i hj hi => up2_ (by omega) (h.lv j i hj hi)⟩

theorem RW_x.ag_ {T : sp_T} {v : sp_V} {x : Nat → Int} (h : RW_x T v x) (h6 : nP_ T ≤ 6) {p : Nat} (hp : p < nP_ T) {l : Int} : RW_x T (am_up v (p) l) (am_up x (p) l) :=
  ⟨up2_ (by omega) h.yr, fun j hj => up2_ (by omega) (h.ag j hj), fun j hj => up2_ (by omega) (h.hw j hj), fun j hj => up2_ (by omega) (h.pr j hj), fun j hj => up2_ (by omega) (h.hd j hj), fun j i hj hi => up2_ (by omega) (h.lv j i hj hi)⟩

theorem RW_x.hw_ {T : sp_T} {v : sp_V} {x : Nat → Int} (h : RW_x T v x) (h6 : nP_ T ≤ 6) {p : Nat} (hp : p < nP_ T) {l : Int} : RW_x T (am_up v (12 + p) l) (am_up x (6 + p) l) :=
  ⟨up2_ (by omega) h.yr, fun j hj => up2_ (by omega) (h.ag j hj), fun j hj => up2_ (by omega) (h.hw j hj), fun j hj => up2_ (by omega) (h.pr j hj), fun j hj => up2_ (by omega) (h.hd j hj), fun j i hj hi => up2_ (by omega) (h.lv j i hj hi)⟩

theorem RW_x.pr_ {T : sp_T} {v : sp_V} {x : Nat → Int} (h : RW_x T v x) (h6 : nP_ T ≤ 6) {p : Nat} (hp : p < nP_ T) {l : Int} : RW_x T (am_up v (18 + p) l) (am_up x (12 + p) l) :=
  ⟨up2_ (by omega) h.yr, fun j hj => up2_ (by omega) (h.ag j hj), fun j hj => up2_ (by omega) (h.hw j hj), fun j hj => up2_ (by omega) (h.pr j hj), fun j hj => up2_ (by omega) (h.hd j hj), fun j i hj hi => up2_ (by omega) (h.lv j i hj hi)⟩

theorem RW_x.hd_ {T : sp_T} {v : sp_V} {x : Nat → Int} (h : RW_x T v x) (h6 : nP_ T ≤ 6) {p : Nat} (hp : p < nP_ T) {l : Int} : RW_x T (am_up v (6 + p) l) (am_up x (18 + p) l) :=
  ⟨up2_ (by omega) h.yr, fun j hj => up2_ (by omega) (h.ag j hj), fun j hj => up2_ (by omega) (h.hw j hj), fun j hj => up2_ (by omega) (h.pr j hj), fun j hj => up2_ (by omega) (h.hd j hj), fun j i hj hi => up2_ (by omega) (h.lv j i hj hi)⟩

theorem RW_x.yr_ {T : sp_T} {v : sp_V} {x : Nat → Int} (h : RW_x T v x) (h6 : nP_ T ≤ 6) {l : Int} : RW_x T (am_up v (49) l) (am_up x (48) l) :=
  ⟨up2_ (by omega) h.yr, fun j hj => up2_ (by omega) (h.ag j hj), fun j hj => up2_ (by omega) (h.hw j hj), fun j hj => up2_ (by omega) (h.pr j hj), fun j hj => up2_ (by omega) (h.hd j hj), fun j i hj hi => up2_ (by omega) (h.lv j i hj hi)⟩

theorem RW_x.d48 {T : sp_T} {v : sp_V} {x : Nat → Int} (h : RW_x T v x) (h6 : nP_ T ≤ 6) {l : Int} : RW_x T (am_up v 48 l) x :=
  ⟨by rw [am_up_ne (by decide)]; exact h.yr, fun j hj => by rw [am_up_ne (by omega)]; exact h.ag j hj, fun j hj => by rw [am_up_ne (by omega)]; exact h.hw j hj, fun j hj => by rw [am_up_ne (by omega)]; exact h.pr j hj, fun j hj => by rw [am_up_ne (by omega)]; exact h.hd j hj, fun j i hj hi => by rw [am_up_ne (by omega)]; exact h.lv j i hj hi⟩
theorem dn_cg {v w : sp_V} : ∀ k, (∀ p, p < k → w (12 + p) = v (12 + p) ∧ w (6 + p) = v (6 + p)) → dn_ w k = dn_ v k
  | 0, _ => rfl
  | k + 1, h => by
    have e := h k (by omega)
    show (if w (12 + k) = 2 then dn_ w k ||| 2 ^ (w (6 + k)).toNat else dn_ w k) = (if v (12 + k) = 2 then dn_ v k ||| 2 ^ (v (6 + k)).toNat else dn_ v k)
    rw [e.1, e.2, dn_cg k (fun p hp => h p (by omega))]
theorem DN_.cg {T : sp_T} {v w : sp_V} (h : DN_ T v) (he : ∀ p, p < nP_ T → w (12 + p) = v (12 + p) ∧ w (6 + p) = v (6 + p)) (h48 : w 48 = v 48) : DN_ T w :=
  ⟨fun p hp hq => by rw [(he p hp).2]; rw [(he p hp).1] at hq; exact h.1 p hp hq, by rw [h48, h.2, dn_cg _ he]⟩
/-- a LETTER neither done before nor after -/
theorem dn_x {v : sp_V} {p : Nat} {z : Int} (hv : v (12 + p) ≠ 2) (hz : z ≠ 2) : ∀ k, k ≤ 6 → dn_ (am_up v (12 + p) z) k = dn_ v k
  | 0, _ => rfl
  | k + 1, hk => by
    show (if am_up v (12 + p) z (12 + k) = 2 then dn_ (am_up v (12 + p) z) k ||| 2 ^ (am_up v (12 + p) z (6 + k)).toNat else dn_ (am_up v (12 + p) z) k) = (if v (12 + k) = 2 then dn_ v k ||| 2 ^ (v (6 + k)).toNat else dn_ v k)
    rw [dn_x hv hz k (by omega), am_up_ne (show 6 + k ≠ 12 + p by omega)]
    by_cases q : k = p
    · rw [q, am_up_same, if_neg hz, if_neg hv]
    · rw [am_up_ne (show 12 + k ≠ 12 + p by omega)]
theorem dn_y {v : sp_V} {p : Nat} (hv : v (12 + p) ≠ 2) : ∀ k, k ≤ 6 → dn_ (am_up v (12 + p) 2) k = (if p < k then dn_ v k ||| 2 ^ (v (6 + p)).toNat else dn_ v k)
  | 0, _ => rfl
  | k + 1, hk => by
    have ih := dn_y hv k (by omega)
    show (if am_up v (12 + p) 2 (12 + k) = 2 then dn_ (am_up v (12 + p) 2) k ||| 2 ^ (am_up v (12 + p) 2 (6 + k)).toNat else dn_ (am_up v (12 + p) 2) k) = (if p < k + 1 then (if v (12 + k) = 2 then dn_ v k ||| 2 ^ (v (6 + k)).toNat else dn_ v k) ||| 2 ^ (v (6 + p)).toNat else (if v (12 + k) = 2 then dn_ v k ||| 2 ^ (v (6 + k)).toNat else dn_ v k))
    rw [ih, am_up_ne (show 6 + k ≠ 12 + p by omega)]
    by_cases q : k = p
    · subst q
      rw [am_up_same, if_pos rfl, if_neg (by omega), if_pos (by omega), if_neg hv]
    · rw [am_up_ne (show 12 + k ≠ 12 + p by omega)]
      by_cases w : p < k
      · have w2 : p < k + 1 := by omega
        by_cases z : v (12 + k) = 2
        · simp only [if_pos w, if_pos w2, if_pos z]
          rw [Nat.or_assoc, Nat.or_comm (2 ^ (v (6 + p)).toNat), ← Nat.or_assoc]
        · simp only [if_pos w, if_pos w2, if_neg z]
      · have w2 : ¬ p < k + 1 := by omega
        simp only [if_neg w, if_neg w2]
theorem DN_.op {T : sp_T} {v : sp_V} (h : DN_ T v) (hV : TV_ T) {p : Nat} (hp : p < nP_ T) (hs : v (12 + p) < 2) : DN_ T (op_ T v p) := by
  have h6 := hV.nP
  unfold op_
  split
  · refine ⟨fun j hj hq => ?_, ?_⟩
    · by_cases q : j = p
      · rw [q, am_up_same] at hq; cases hq
      · rw [am_up_ne (by omega)] at hq ⊢; exact h.1 j hj hq
    · rw [am_up_ne (by omega), h.2, dn_x (by omega) (by decide) _ (by omega)]
  · split
    · next q1 q2 =>
      refine ⟨fun j hj hq => ?_, ?_⟩
      · rw [am_up_ne (show 6 + j ≠ 48 by omega), am_up_ne (show 6 + j ≠ 12 + p by omega)]
        by_cases q : j = p
        · rw [q]; omega
        · rw [am_up_ne (by omega), am_up_ne (by omega)] at hq; exact h.1 j hj hq
      · rw [am_up_same, dn_cg (v := am_up v (12 + p) 2) _ (fun j hj => ⟨am_up_ne (by omega), am_up_ne (by omega)⟩), dn_y (by omega) _ (by omega), if_pos hp, h.2, Int.toNat_natCast]
    · refine ⟨fun j hj hq => ?_, ?_⟩
      · by_cases q : j = p
        · rw [q, am_up_same] at hq; cases hq
        · rw [am_up_ne (by omega)] at hq ⊢; exact h.1 j hj hq
      · rw [am_up_ne (by omega), h.2, dn_x (by omega) (by decide) _ (by omega)]
theorem ln_at {T : sp_T} {v : sp_V} {p : Nat} {s : Int} {j : Nat} (h : j < 24 ∨ 48 ≤ j) (hp : p < 6) (hs : s < 4) : ln_ T v p s j = v j := ln_ne h hp hs
theorem VV_.ag1 {T : sp_T} {b : Int} {v : sp_V} (h : VV_ T b v) (hV : TV_ T) {p : Nat} (hp : p < nP_ T) (hb : v p ≤ b - 1) : VV_ T b (am_up v p (v p + 1)) := by
  have h8 := hV.nP
  have ha := (h.2.2 p hp).1
  exact h.up (by omega) (by omega) (by omega) (by omega) (by omega) (by omega) (by omega)

theorem x_openLetter {d : Nat} (hd : 4 ≤ d) {σ : am_S} {q t : Nat} {T : sp_T} {v : sp_V} (hL : PL_ q t T v σ) (hV : TV_ T) {b : Int} (hW : VV_ T b v) (hD : DN_ T v) {p : Nat} (hp : p < nP_ T) {Q : Option am_V → am_S → Prop} (hQ : ∀ x, RW_x T (op_ T v p) x → Q none (am_sI σ (q + 1) x)) : am_Ev d 22 [am_R q, am_I ((p : Nat) : Int)] σ Q := by
  obtain ⟨d, rfl⟩ : ∃ e, d = e + 1 := ⟨d - 1, by omega⟩
  have h6 := hV.nP
  have hO8 := hV.nO
  have hw := (hW.2.2 p hp).2.1
  have h48 := hW.2.1
  obtain ⟨dd, hdd⟩ : ∃ dd : Nat, v 48 = (dd : Int) := ⟨(v 48).toNat, by omega⟩
  refine ev_in (m := 22) (c := k_X2_openLetter) (L := [some (am_R q), some (am_I ((p : Nat) : Int))]) rfl rfl rfl rfl rfl rfl ?_
  by_cases hh : v (6 + p) < 0
  · refine ax_load (q := 1) rfl rfl rfl rfl rfl ?_
    refine ax_getf (q := 4) (v := am_R (q + 1)) rfl rfl (xg2_0 hL.hq) ?_
    refine ax_const (q := 6) (v := am_I 18) rfl rfl rfl ?_
    refine ax_load (q := 7) rfl rfl rfl rfl rfl ?_
    refine ax_iadd (q := 8) (z := ((18 + p : Nat) : Int)) rfl rfl (am_we (by omega) (by omega) (by omega)) ?_
    refine bx_iald (q := 9) (k := 18 + p) (z := (-1)) rfl rfl (kd_q1 hL.hq) (by omega) (by omega) ((hL.rw.hd _ hp).trans (by omega)) ?_
    refine ax_const (q := 10) (v := am_I (-1)) rfl rfl rfl ?_
    refine ax_icmp_ne (q := 13) (x := 26) rfl rfl (fun h => absurd rfl h) (fun h10 => ?_)
    refine ax_load (q := 14) rfl rfl rfl rfl rfl ?_
    refine ax_getf (q := 17) (v := am_R (q + 1)) rfl rfl (xg2_0 hL.hq) ?_
    refine ax_const (q := 19) (v := am_I 6) rfl rfl rfl ?_
    refine ax_load (q := 20) rfl rfl rfl rfl rfl ?_
    refine ax_iadd (q := 21) (z := ((6 + p : Nat) : Int)) rfl rfl (am_we (by omega) (by omega) (by omega)) ?_
    refine ax_const (q := 22) (v := am_I 4) rfl rfl rfl ?_
    refine bx_iast (q := 23) (k := 6 + p) rfl rfl (kd_q1 hL.hq) (by omega) (by omega) ?_
    refine ax_goto (x := 52) rfl ?_
    refine ax_ret (r := none) rfl rfl ?_
    refine hQ _ ?_
    rw [show op_ T v p = am_up v (12 + p) 4 from if_pos hh]
    exact hL.rw.hw_ h6.2 hp
  · refine ax_load (q := 1) rfl rfl rfl rfl rfl ?_
    refine ax_getf (q := 4) (v := am_R (q + 1)) rfl rfl (xg2_0 hL.hq) ?_
    refine ax_const (q := 6) (v := am_I 18) rfl rfl rfl ?_
    refine ax_load (q := 7) rfl rfl rfl rfl rfl ?_
    refine ax_iadd (q := 8) (z := ((18 + p : Nat) : Int)) rfl rfl (am_we (by omega) (by omega) (by omega)) ?_
    refine bx_iald (q := 9) (k := 18 + p) (z := v (6 + p)) rfl rfl (kd_q1 hL.hq) (by omega) (by omega) (hL.rw.hd _ hp) ?_
    refine ax_const (q := 10) (v := am_I (-1)) rfl rfl rfl ?_
    refine ax_icmp_ne (q := 13) (x := 26) rfl rfl (fun h10 => ?_) (fun h => absurd h (by omega))
    refine ax_load (q := 27) rfl rfl rfl rfl rfl ?_
    refine ax_getf (q := 30) (v := am_R (q + 1)) rfl rfl (xg2_0 hL.hq) ?_
    refine ax_const (q := 32) (v := am_I 6) rfl rfl rfl ?_
    refine ax_load (q := 33) rfl rfl rfl rfl rfl ?_
    refine ax_iadd (q := 34) (z := ((6 + p : Nat) : Int)) rfl rfl (am_we (by omega) (by omega) (by omega)) ?_
    refine ax_load (q := 35) rfl rfl rfl rfl rfl ?_
    refine ax_load (q := 36) rfl rfl rfl rfl rfl ?_
    refine ax_load (q := 37) rfl rfl rfl rfl rfl ?_
    refine ax_callv (q := 40) rfl rfl rfl rfl rfl (kd_q hL.hq) ?_
    refine x_doneOrders (by omega) hL hV hW hD ?_
    rw [hdd]
    refine ax_callv (q := 43) rfl rfl rfl rfl rfl (kd_q hL.hq) ?_
    refine x_wouldDo (by omega) hL hV hW hp (by omega) ?_
    refine ax_if_eq (q := 46) (x := 50) rfl rfl (fun h43 => ?_) (fun h43 => ?_)
    · have hb := it_0 h43
      have hb2 : (cn_ T v p (v (6 + p)).toNat && !ud_ T v (v (6 + p)).toNat) = false := by
        unfold wd2_ at hb
        rw [decide_eq_true (by omega), Bool.true_and] at hb
        unfold ud_ tb_
        rw [hdd, Int.toNat_natCast]
        exact hb
      refine ax_const (q := 51) (v := am_I 3) rfl rfl rfl ?_
      refine bx_iast (q := 52) (k := 6 + p) rfl rfl (kd_q1 hL.hq) (by omega) (by omega) ?_
      refine ax_ret (r := none) rfl rfl ?_
      refine hQ _ ?_
      rw [show op_ T v p = am_up v (12 + p) 3 from (if_neg hh).trans (if_neg (by rw [hb2]; decide))]
      exact hL.rw.hw_ h6.2 hp
    · have hb := it_n0 h43
      have hb2 : (cn_ T v p (v (6 + p)).toNat && !ud_ T v (v (6 + p)).toNat) = true := by
        unfold wd2_ at hb
        rw [decide_eq_true (by omega), Bool.true_and] at hb
        unfold ud_ tb_
        rw [hdd, Int.toNat_natCast]
        exact hb
      refine ax_const (q := 47) (v := am_I 2) rfl rfl rfl ?_
      refine ax_goto (x := 51) rfl ?_
      refine bx_iast (q := 52) (k := 6 + p) rfl rfl (kd_q1 hL.hq) (by omega) (by omega) ?_
      refine ax_ret (r := none) rfl rfl ?_
      refine hQ _ ?_
      rw [show op_ T v p = am_up (am_up v (12 + p) 2) 48 (((v 48).toNat ||| 2 ^ (v (6 + p)).toNat : Nat) : Int) from (if_neg hh).trans (if_pos hb2)]
      exact (hL.rw.hw_ h6.2 hp).d48 h6.2

theorem x_learn {d : Nat} (hd : 4 ≤ d) {σ : am_S} {q t : Nat} {T : sp_T} {v : sp_V} (hL : PL_ q t T v σ) (hV : TV_ T) {b : Int} (hW : VV_ T b v) (hb9 : b < 1000000) {p : Nat} (hp : p < nP_ T) {Q : Option am_V → am_S → Prop} (hQ : ∀ σ', fr_ [q + 1, t + 31] σ σ' → RW_x T (ln_ T v p (v (18 + p))) (σ'.1 (q + 1)) → Q none σ') : am_Ev d 24 [am_R q, am_I ((p : Nat) : Int)] σ Q := by
  obtain ⟨d, rfl⟩ : ∃ e, d = e + 1 := ⟨d - 1, by omega⟩
  have h6 := hV.nP
  have hS4 := hV.nS
  have hq := hL.hq
  have ht := hL.ht
  have hw := (hW.2.2 p hp).2.2.2.1
  have hh : v (18 + p) = -1 ∨ ∃ s : Nat, v (18 + p) = (s : Int) ∧ s < 4 := by
    by_cases q : v (18 + p) < 0
    · exact Or.inl (by omega)
    · exact Or.inr ⟨(v (18 + p)).toNat, by omega, by omega⟩
  refine ev_in (m := 24) (c := k_X2_learn) (L := [some (am_R q), some (am_I ((p : Nat) : Int)), none, none]) rfl rfl rfl rfl rfl rfl ?_
  rcases hh with hh | ⟨s, hs, hs4⟩
  · refine ax_load (q := 1) rfl rfl rfl rfl rfl ?_
    refine ax_getf (q := 4) (v := am_R (q + 1)) rfl rfl (xg2_0 hL.hq) ?_
    refine ax_const (q := 6) (v := am_I 12) rfl rfl rfl ?_
    refine ax_load (q := 7) rfl rfl rfl rfl rfl ?_
    refine ax_iadd (q := 8) (z := ((12 + p : Nat) : Int)) rfl rfl (am_we (by omega) (by omega) (by omega)) ?_
    refine bx_iald (q := 9) (k := 12 + p) (z := (-1)) rfl rfl (kd_q1 hL.hq) (by omega) (by omega) ((hL.rw.pr _ hp).trans hh) ?_
    refine ax_store (q := 10) (L' := [some (am_R q), some (am_I ((p : Nat) : Int)), some (am_I (-1)), none]) rfl rfl rfl rfl rfl rfl ?_
    refine ax_load (q := 11) rfl rfl rfl rfl rfl ?_
    refine ax_const (q := 12) (v := am_I (-1)) rfl rfl rfl ?_
    refine ax_icmp_eq (q := 15) (x := 43) rfl rfl (fun h12 => ?_) (fun h => absurd rfl h)
    refine ax_ret (r := none) rfl rfl ?_
    refine hQ σ (fr_rf _ _) ?_
    rw [hh]
    exact hL.rw
  · refine ax_load (q := 1) rfl rfl rfl rfl rfl ?_
    refine ax_getf (q := 4) (v := am_R (q + 1)) rfl rfl (xg2_0 hL.hq) ?_
    refine ax_const (q := 6) (v := am_I 12) rfl rfl rfl ?_
    refine ax_load (q := 7) rfl rfl rfl rfl rfl ?_
    refine ax_iadd (q := 8) (z := ((12 + p : Nat) : Int)) rfl rfl (am_we (by omega) (by omega) (by omega)) ?_
    refine bx_iald (q := 9) (k := 12 + p) (z := ((s : Nat) : Int)) rfl rfl (kd_q1 hL.hq) (by omega) (by omega) ((hL.rw.pr _ hp).trans hs) ?_
    refine ax_store (q := 10) (L' := [some (am_R q), some (am_I ((p : Nat) : Int)), some (am_I ((s : Nat) : Int)), none]) rfl rfl rfl rfl rfl rfl ?_
    refine ax_load (q := 11) rfl rfl rfl rfl rfl ?_
    refine ax_const (q := 12) (v := am_I (-1)) rfl rfl rfl ?_
    refine ax_icmp_eq (q := 15) (x := 43) rfl rfl (fun h => absurd h (by omega)) (fun h12 => ?_)
    refine ax_load (q := 16) rfl rfl rfl rfl rfl ?_
    refine ax_load (q := 17) rfl rfl rfl rfl rfl ?_
    refine ax_load (q := 18) rfl rfl rfl rfl rfl ?_
    refine ax_callv (q := 21) rfl rfl rfl rfl rfl (kd_q hL.hq) ?_
    refine x_levelOf (by omega) hL hV hp hs4 ?_
    refine ax_store (q := 22) (L' := [some (am_R q), some (am_I ((p : Nat) : Int)), some (am_I ((s : Nat) : Int)), some (am_I (v (24 + 4 * p + s)))]) rfl rfl rfl rfl rfl rfl ?_
    refine ax_load (q := 23) rfl rfl rfl rfl rfl ?_
    refine ax_getf (q := 26) (v := am_R (q + 1)) rfl rfl (xg2_0 hL.hq) ?_
    refine ax_const (q := 28) (v := am_I 24) rfl rfl rfl ?_
    refine ax_load (q := 29) rfl rfl rfl rfl rfl ?_
    refine ax_const (q := 30) (v := am_I 4) rfl rfl rfl ?_
    refine ax_imul (q := 31) (z := ((p * 4 : Nat) : Int)) rfl rfl (am_we (by omega) (by omega) (by omega)) ?_
    refine ax_iadd (q := 32) (z := ((24 + (p * 4) : Nat) : Int)) rfl rfl (am_we (by omega) (by omega) (by omega)) ?_
    refine ax_load (q := 33) rfl rfl rfl rfl rfl ?_
    refine ax_iadd (q := 34) (z := (((24 + (p * 4)) + s : Nat) : Int)) rfl rfl (am_we (by omega) (by omega) (by omega)) ?_
    refine ax_load (q := 35) rfl rfl rfl rfl rfl ?_
    refine ax_load (q := 36) rfl rfl rfl rfl rfl ?_
    refine ax_load (q := 37) rfl rfl rfl rfl rfl ?_
    refine ax_load (q := 38) rfl rfl rfl rfl rfl ?_
    refine ax_const (q := 39) (v := am_I 0) rfl rfl rfl ?_
    refine ax_callv (q := 42) rfl rfl rfl rfl rfl (kd_q hL.hq) ?_
    refine x_levelNext (g := 0) (by omega) hL hV hp hs4 ((hW.2.2 p hp).2.2.2.2 s hs4) hW hb9 (by decide) (fun σ1 hf1 => ?_)
    refine bx_iast (q := 43) (k := (24 + (p * 4)) + s) rfl rfl (kd_q1 hL.hq) (by omega) (by omega) ?_
    refine ax_ret (r := none) rfl rfl ?_
    refine hQ _ (fr_sI (fr_sub hf1 (by simp)) (by simp)) ?_
    rw [sI_at, hf1.1 (q + 1) (by simp; omega), hs, Nat.mul_comm p 4]
    have e : ln_ T v p (s : Int) = am_up v (24 + 4 * p + s) (lv_n T (v (24 + 4 * p + s)) (v p + ((0 : Nat) : Int)) (v 49 + ((0 : Nat) : Int)) s) := by unfold ln_; rw [if_neg (by omega), Int.toNat_natCast]; simp
    rw [e]
    exact hL.rw.lv_ h6.2 hp hs4

/-- a level after so many years of one's own -/
def lb_ (T : sp_T) (s : Nat) (a y : Int) (l : Int) : Nat → Int
  | 0 => l
  | k + 1 => lv_n T (lb_ T s a y l k) (a + (k : Int)) (y + (k : Int)) s
theorem lb_bd (T : sp_T) (s : Nat) (a y : Int) {l : Int} (h : 0 ≤ l ∧ l ≤ 20) : ∀ k, 0 ≤ lb_ T s a y l k ∧ lb_ T s a y l k ≤ 20
  | 0 => h
  | k + 1 => by
    have ih := lb_bd T s a y h k
    have hg := gn_bd T (ak_ (lb_ T s a y l k) (a + (k : Int)) (y + (k : Int)) s)
    show 0 ≤ lv_n T _ _ _ _ ∧ lv_n T _ _ _ _ ≤ 20
    unfold lv_n
    split <;> omega

theorem xl_levelBehind {d : Nat} (hd : 3 ≤ d) {σ : am_S} {q t : Nat} {T : sp_T} {v : sp_V} (hL : PL_ q t T v σ) (hV : TV_ T) {b : Int} (hW : VV_ T b v) (hb9 : b < 1000000) {p s n : Nat} (hp : p < nP_ T) (hs : s < 4) (hn : n < 1000000) {Q : Option am_V → am_S → Prop} (hQ : ∀ σ', fr_ [t + 31] σ σ' → Q (some (am_I (lb_ T s (v p) (v 49) (v (24 + 4 * p + s)) n))) σ') : ∀ (m k : Nat), k + m = n → ∀ σ', fr_ [t + 31] σ σ' → aW d 0 k_X2_levelBehind Q 11 [some (am_R q), some (am_I ((p : Nat) : Int)), some (am_I ((s : Nat) : Int)), some (am_I ((n : Nat) : Int)), some (am_I (lb_ T s (v p) (v 49) (v (24 + 4 * p + s)) k)), some (am_I ((k : Nat) : Int))] [] σ' := by
  have ht := hL.ht
  have hq := hL.hq
  have hlb := lb_bd T s (v p) (v 49) ((hW.2.2 p hp).2.2.2.2 s hs)
  intro m
  induction m with
  | zero =>
    intro k hk σ' hf
    obtain rfl : k = n := by omega
    refine ax_load (q := 13) rfl rfl rfl rfl rfl ?_
    refine ax_load (q := 14) rfl rfl rfl rfl rfl ?_
    refine ax_icmp_ge (q := 17) (x := 35) rfl rfl (fun h14 => ?_) (fun h => absurd h (by omega))
    refine ax_load (q := 37) rfl rfl rfl rfl rfl ?_
    refine ax_ret (r := some (am_I (lb_ T s (v p) (v 49) (v (24 + 4 * p + s)) k))) rfl rfl ?_
    exact hQ _ hf
  | succ m ih =>
    intro k hk σ' hf
    have hL2 : PL_ q t T v σ' := hL.fr hf (by intro a ha; simp at ha; omega)
    refine ax_load (q := 13) rfl rfl rfl rfl rfl ?_
    refine ax_load (q := 14) rfl rfl rfl rfl rfl ?_
    refine ax_icmp_ge (q := 17) (x := 35) rfl rfl (fun h => absurd h (by omega)) (fun h14 => ?_)
    refine ax_load (q := 18) rfl rfl rfl rfl rfl ?_
    refine ax_load (q := 19) rfl rfl rfl rfl rfl ?_
    refine ax_load (q := 20) rfl rfl rfl rfl rfl ?_
    refine ax_load (q := 22) rfl rfl rfl rfl rfl ?_
    refine ax_load (q := 24) rfl rfl rfl rfl rfl ?_
    refine ax_callv (q := 27) rfl rfl rfl rfl rfl (kd_q hL2.hq) ?_
    refine x_levelNext (g := k) (by omega) hL2 hV hp hs (hlb k) hW hb9 (by omega) (fun σ2 hf2 => ?_)
    refine ax_store (q := 29) (L' := [some (am_R q), some (am_I ((p : Nat) : Int)), some (am_I ((s : Nat) : Int)), some (am_I ((n : Nat) : Int)), some (am_I (lv_n T (lb_ T s (v p) (v 49) (v (24 + 4 * p + s)) k) (v p + ((k : Nat) : Int)) (v 49 + ((k : Nat) : Int)) s)), some (am_I ((k : Nat) : Int))]) rfl rfl rfl rfl rfl rfl ?_
    refine ax_iinc (q := 32) (z' := ((k + 1 : Nat) : Int)) (L' := [some (am_R q), some (am_I ((p : Nat) : Int)), some (am_I ((s : Nat) : Int)), some (am_I ((n : Nat) : Int)), some (am_I (lv_n T (lb_ T s (v p) (v 49) (v (24 + 4 * p + s)) k) (v p + ((k : Nat) : Int)) (v 49 + ((k : Nat) : Int)) s)), some (am_I ((k + 1 : Nat) : Int))]) rfl rfl rfl rfl (am_we (by omega) (by omega) (by omega)) rfl ?_
    refine ax_goto (x := 11) rfl ?_
    exact ih (k + 1) (by omega) σ2 (fr_tr hf hf2 (by simp))

theorem x_levelBehind {d : Nat} (hd : 4 ≤ d) {σ : am_S} {q t : Nat} {T : sp_T} {v : sp_V} (hL : PL_ q t T v σ) (hV : TV_ T) {b : Int} (hW : VV_ T b v) (hb9 : b < 1000000) {p s n : Nat} (hp : p < nP_ T) (hs : s < 4) (hn : n < 1000000) {Q : Option am_V → am_S → Prop} (hQ : ∀ σ', fr_ [t + 31] σ σ' → Q (some (am_I (lb_ T s (v p) (v 49) (v (24 + 4 * p + s)) n))) σ') : am_Ev d 26 [am_R q, am_I ((p : Nat) : Int), am_I ((s : Nat) : Int), am_I ((n : Nat) : Int)] σ Q := by
  obtain ⟨d, rfl⟩ : ∃ e, d = e + 1 := ⟨d - 1, by omega⟩
  refine ev_in (m := 26) (c := k_X2_levelBehind) (L := [some (am_R q), some (am_I ((p : Nat) : Int)), some (am_I ((s : Nat) : Int)), some (am_I ((n : Nat) : Int)), none, none]) rfl rfl rfl rfl rfl rfl ?_
  refine ax_load (q := 1) rfl rfl rfl rfl rfl ?_
  refine ax_load (q := 2) rfl rfl rfl rfl rfl ?_
  refine ax_load (q := 3) rfl rfl rfl rfl rfl ?_
  refine ax_callv (q := 6) rfl rfl rfl rfl rfl (kd_q hL.hq) ?_
  refine x_levelOf (by omega) hL hV hp hs ?_
  refine ax_store (q := 8) (L' := [some (am_R q), some (am_I ((p : Nat) : Int)), some (am_I ((s : Nat) : Int)), some (am_I ((n : Nat) : Int)), some (am_I (v (24 + 4 * p + s))), none]) rfl rfl rfl rfl rfl rfl ?_
  refine ax_const (q := 9) (v := am_I 0) rfl rfl rfl ?_
  refine ax_store (q := 11) (L' := [some (am_R q), some (am_I ((p : Nat) : Int)), some (am_I ((s : Nat) : Int)), some (am_I ((n : Nat) : Int)), some (am_I (v (24 + 4 * p + s))), some (am_I 0)]) rfl rfl rfl rfl rfl rfl ?_
  exact xl_levelBehind (by omega) hL hV hW hb9 hp hs hn hQ n 0 (by omega) σ (fr_rf _ _)

/-- the first year, of those to come, in which the level is there -/
def yr2_ (T : sp_T) (s : Nat) (a y : Int) (l q : Int) : Nat → Nat → Int
  | 0, _ => -1
  | m + 1, k => if q ≤ lb_ T s a y l k then (k : Int) else yr2_ T s a y l q m (k + 1)

theorem xl_yearsTillReady {d : Nat} (hd : 3 ≤ d) {σ : am_S} {q t : Nat} {T : sp_T} {v : sp_V} (hL : PL_ q t T v σ) (hV : TV_ T) {b : Int} (hW : VV_ T b v) (hb9 : b < 1000000) {p o : Nat} (hp : p < nP_ T) (ho : o < nO_ T) {Q : Option am_V → am_S → Prop} : ∀ (m k : Nat), k + m = 61 → ∀ σ', fr_ [t + 31] σ σ' → (hQ : ∀ σ', fr_ [t + 31] σ σ' → Q (some (am_I (yr2_ T (sk_ T o) (v p) (v 49) (v (24 + 4 * p + sk_ T o)) (T 152 o) m k))) σ') → aW d 0 k_X2_yearsTillReady Q 23 [some (am_R q), some (am_I ((p : Nat) : Int)), some (am_I ((o : Nat) : Int)), some (am_I (((sk_ T o) : Nat) : Int)), some (am_I (lb_ T (sk_ T o) (v p) (v 49) (v (24 + 4 * p + sk_ T o)) k)), some (am_I ((k : Nat) : Int))] [] σ' := by
  have ht := hL.ht
  have hq := hL.hq
  have hO8 := hV.nO
  have hsk := hV.sk ho
  have hlb := lb_bd T (sk_ T o) (v p) (v 49) ((hW.2.2 p hp).2.2.2.2 (sk_ T o) (by omega))
  intro m
  induction m with
  | zero =>
    intro k hk σ' hf hQ
    obtain rfl : k = 61 := by omega
    refine ax_load (q := 25) rfl rfl rfl rfl rfl ?_
    refine ax_const (q := 27) (v := am_I 60) rfl rfl rfl ?_
    refine ax_icmp_gt (q := 30) (x := 67) rfl rfl (fun h27 => ?_) (fun h => absurd h (by omega))
    refine ax_const (q := 68) (v := am_I (-1)) rfl rfl rfl ?_
    refine ax_ret (r := some (am_I (-1))) rfl rfl ?_
    exact hQ _ hf
  | succ m ih =>
    intro k hk σ' hf hQ
    have hL2 : PL_ q t T v σ' := hL.fr hf (by intro a ha; simp at ha; omega)
    refine ax_load (q := 25) rfl rfl rfl rfl rfl ?_
    refine ax_const (q := 27) (v := am_I 60) rfl rfl rfl ?_
    refine ax_icmp_gt (q := 30) (x := 67) rfl rfl (fun h => absurd h (by omega)) (fun h27 => ?_)
    refine ax_load (q := 32) rfl rfl rfl rfl rfl ?_
    refine ax_load (q := 33) rfl rfl rfl rfl rfl ?_
    refine ax_getf (q := 36) (v := am_R t) rfl rfl (am_fgR (xg2_1 hL2.hq) hL2.to) ?_
    refine ax_getf (q := 39) (v := am_R (t + 7)) rfl rfl (xg7_2 hL2.xt.ht) ?_
    refine ax_const (q := 40) (v := am_I 1) rfl rfl rfl ?_
    refine bx_aald (q := 41) (k := 1) (z := t + 9) rfl rfl (Or.inl (kd_7 hL2.xt.ht)) (by omega) (by omega) (by omega) ?_
    refine ax_load (q := 42) rfl rfl rfl rfl rfl ?_
    refine bx_iald (q := 43) (k := o) (z := T 152 o) rfl rfl (kd_9 hL2.xt.ht) (by omega) (by omega) (hL2.xt.lvl _ (by omega)) ?_
    refine ax_icmp_lt (q := 46) (x := 49) rfl rfl (fun h43 => ?_) (fun h43 => ?_)
    · refine ax_load (q := 50) rfl rfl rfl rfl rfl ?_
      refine ax_load (q := 51) rfl rfl rfl rfl rfl ?_
      refine ax_load (q := 52) rfl rfl rfl rfl rfl ?_
      refine ax_load (q := 54) rfl rfl rfl rfl rfl ?_
      refine ax_load (q := 56) rfl rfl rfl rfl rfl ?_
      refine ax_callv (q := 59) rfl rfl rfl rfl rfl (kd_q hL2.hq) ?_
      refine x_levelNext (g := k) (by omega) hL2 hV hp (by omega) (hlb k) hW hb9 (by omega) (fun σ2 hf2 => ?_)
      refine ax_store (q := 61) (L' := [some (am_R q), some (am_I ((p : Nat) : Int)), some (am_I ((o : Nat) : Int)), some (am_I (((sk_ T o) : Nat) : Int)), some (am_I (lv_n T (lb_ T (sk_ T o) (v p) (v 49) (v (24 + 4 * p + sk_ T o)) k) (v p + ((k : Nat) : Int)) (v 49 + ((k : Nat) : Int)) (sk_ T o))), some (am_I ((k : Nat) : Int))]) rfl rfl rfl rfl rfl rfl ?_
      refine ax_iinc (q := 64) (z' := ((k + 1 : Nat) : Int)) (L' := [some (am_R q), some (am_I ((p : Nat) : Int)), some (am_I ((o : Nat) : Int)), some (am_I (((sk_ T o) : Nat) : Int)), some (am_I (lv_n T (lb_ T (sk_ T o) (v p) (v 49) (v (24 + 4 * p + sk_ T o)) k) (v p + ((k : Nat) : Int)) (v 49 + ((k : Nat) : Int)) (sk_ T o))), some (am_I ((k + 1 : Nat) : Int))]) rfl rfl rfl rfl (am_we (by omega) (by omega) (by omega)) rfl ?_
      refine ax_goto (x := 23) rfl ?_
      rw [show yr2_ T (sk_ T o) (v p) (v 49) (v (24 + 4 * p + sk_ T o)) (T 152 o) (m + 1) k = yr2_ T (sk_ T o) (v p) (v 49) (v (24 + 4 * p + sk_ T o)) (T 152 o) m (k + 1) from if_neg (by omega)] at hQ
      exact ih (k + 1) (by omega) σ2 (fr_tr hf hf2 (by simp)) hQ
    · refine ax_load (q := 48) rfl rfl rfl rfl rfl ?_
      refine ax_ret (r := some (am_I ((k : Nat) : Int))) rfl rfl ?_
      rw [show yr2_ T (sk_ T o) (v p) (v 49) (v (24 + 4 * p + sk_ T o)) (T 152 o) (m + 1) k = (k : Int) from if_pos (by omega)] at hQ
      exact hQ _ hf

theorem x_yearsTillReady {d : Nat} (hd : 4 ≤ d) {σ : am_S} {q t : Nat} {T : sp_T} {v : sp_V} (hL : PL_ q t T v σ) (hV : TV_ T) {b : Int} (hW : VV_ T b v) (hb9 : b < 1000000) {p o : Nat} (hp : p < nP_ T) (ho : o < nO_ T) {Q : Option am_V → am_S → Prop} (hQ : ∀ σ', fr_ [t + 31] σ σ' → Q (some (am_I (yr2_ T (sk_ T o) (v p) (v 49) (v (24 + 4 * p + sk_ T o)) (T 152 o) 61 0))) σ') : am_Ev d 28 [am_R q, am_I ((p : Nat) : Int), am_I ((o : Nat) : Int)] σ Q := by
  obtain ⟨d, rfl⟩ : ∃ e, d = e + 1 := ⟨d - 1, by omega⟩
  have h6 := hV.nP
  have hO8 := hV.nO
  have hsk := hV.sk ho
  refine ev_in (m := 28) (c := k_X2_yearsTillReady) (L := [some (am_R q), some (am_I ((p : Nat) : Int)), some (am_I ((o : Nat) : Int)), none, none, none]) rfl rfl rfl rfl rfl rfl ?_
  refine ax_load (q := 1) rfl rfl rfl rfl rfl ?_
  refine ax_getf (q := 4) (v := am_R t) rfl rfl (am_fgR (xg2_1 hL.hq) hL.to) ?_
  refine ax_getf (q := 7) (v := am_R (t + 7)) rfl rfl (xg7_2 hL.xt.ht) ?_
  refine ax_const (q := 8) (v := am_I 0) rfl rfl rfl ?_
  refine bx_aald (q := 9) (k := 0) (z := t + 8) rfl rfl (Or.inl (kd_7 hL.xt.ht)) (by omega) (by omega) (by omega) ?_
  refine ax_load (q := 10) rfl rfl rfl rfl rfl ?_
  refine bx_iald (q := 11) (k := o) (z := (((sk_ T o) : Nat) : Int)) rfl rfl (kd_8 hL.xt.ht) (by omega) (by omega) ((hL.xt.ask _ (by omega)).trans (hV.sk (by omega)).1) ?_
  refine ax_store (q := 12) (L' := [some (am_R q), some (am_I ((p : Nat) : Int)), some (am_I ((o : Nat) : Int)), some (am_I (((sk_ T o) : Nat) : Int)), none, none]) rfl rfl rfl rfl rfl rfl ?_
  refine ax_load (q := 13) rfl rfl rfl rfl rfl ?_
  refine ax_load (q := 14) rfl rfl rfl rfl rfl ?_
  refine ax_load (q := 15) rfl rfl rfl rfl rfl ?_
  refine ax_callv (q := 18) rfl rfl rfl rfl rfl (kd_q hL.hq) ?_
  refine x_levelOf (by omega) hL hV hp (by omega) ?_
  refine ax_store (q := 20) (L' := [some (am_R q), some (am_I ((p : Nat) : Int)), some (am_I ((o : Nat) : Int)), some (am_I (((sk_ T o) : Nat) : Int)), some (am_I (v (24 + 4 * p + (sk_ T o)))), none]) rfl rfl rfl rfl rfl rfl ?_
  refine ax_const (q := 21) (v := am_I 0) rfl rfl rfl ?_
  refine ax_store (q := 23) (L' := [some (am_R q), some (am_I ((p : Nat) : Int)), some (am_I ((o : Nat) : Int)), some (am_I (((sk_ T o) : Nat) : Int)), some (am_I (v (24 + 4 * p + (sk_ T o)))), some (am_I 0)]) rfl rfl rfl rfl rfl rfl ?_
  exact xl_yearsTillReady (by omega) hL hV hW hb9 hp ho 61 0 (by omega) σ (fr_rf _ _) hQ

