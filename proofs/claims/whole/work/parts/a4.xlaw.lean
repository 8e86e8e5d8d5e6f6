theorem dn_h {v : sp_V} {p : Nat} {z : Int} (hv : v (12 + p) ≠ 2) (hp : p < 6) : ∀ k, k ≤ 6 → dn_ (am_up v (6 + p) z) k = dn_ v k
  | 0, _ => rfl
  | k + 1, h => by
    show (if am_up v (6 + p) z (12 + k) = 2 then dn_ (am_up v (6 + p) z) k ||| 2 ^ (am_up v (6 + p) z (6 + k)).toNat else dn_ (am_up v (6 + p) z) k) = (if v (12 + k) = 2 then dn_ v k ||| 2 ^ (v (6 + k)).toNat else dn_ v k)
    rw [dn_h hv hp k (by omega), am_up_ne (show 12 + k ≠ 6 + p by omega)]
    by_cases q : k = p
    · rw [q, if_neg hv, if_neg hv]
    · rw [am_up_ne (show 6 + k ≠ 6 + p by omega)]
theorem DN_.hd {T : sp_T} {v : sp_V} (h : DN_ T v) (h6 : nP_ T ≤ 6) {p : Nat} (hp : p < nP_ T) (hv : v (12 + p) ≠ 2) {z : Int} : DN_ T (am_up v (6 + p) z) :=
  ⟨fun j hj hq => by
    rw [am_up_ne (show 12 + j ≠ 6 + p by omega)] at hq
    by_cases q : j = p
    · rw [q] at hq; exact absurd hq hv
    · rw [am_up_ne (by omega)]; exact h.1 j hj hq, by rw [am_up_ne (by omega), h.2, dn_h hv (by omega) _ (by omega)]⟩
theorem DN_.rp {T : sp_T} {v : sp_V} (h : DN_ T v) (h6 : nP_ T ≤ 6) {o z : Int} : ∀ k, k ≤ nP_ T → DN_ T (rp_ v o z k)
  | 0, _ => h
  | k + 1, hk => by
    have ih := DN_.rp h h6 (o := o) (z := z) k (by omega)
    show DN_ T (if sh_ (rp_ v o z k) k && decide (rp_ v o z k (6 + k) = o) then am_up (rp_ v o z k) (6 + k) z else rp_ v o z k)
    split
    · next q =>
      rw [Bool.and_eq_true] at q
      have := of_decide_eq_true q.1
      exact ih.hd h6 (by omega) (by omega)
    · exact ih
theorem rp_id (v : sp_V) (o : Int) : ∀ k, rp_ v o o k = v
  | 0 => rfl
  | k + 1 => by
    show (if sh_ (rp_ v o o k) k && decide (rp_ v o o k (6 + k) = o) then am_up (rp_ v o o k) (6 + k) o else rp_ v o o k) = v
    rw [rp_id v o k]
    split
    · next q =>
      rw [Bool.and_eq_true, decide_eq_true_eq] at q
      funext j
      by_cases w : j = 6 + k
      · rw [w, am_up_same, q.2]
      · rw [am_up_ne w]
    · rfl

theorem xl_law {d : Nat} (hd : 6 ≤ d) {σ : am_S} {t : Nat} {T : sp_T} {u : sp_V} (hV : TV_ T) {b : Int} (hW : VV_ T b u) (hb9 : b < 900000) {x y : Int} {Q : Option am_V → am_S → Prop} (hQ : ∀ σ', xf_ [71, t + 31] σ σ' → Q (some (am_I ((mo_ T (ys_ T u 60) 2 : Nat) : Int))) σ') : ∀ (m k : Nat), k + m = 60 → ∀ σ', xf_ [71, t + 31] σ σ' → PL_ 70 t T (ys_ T u k) σ' → DN_ T (ys_ T u k) → aW d 0 k_X8_doneAtLast Q 82 [some (am_R 0), some (am_I x), some (am_I y), some (am_I ((k : Nat) : Int))] [] σ' := by
  intro m
  induction m with
  | zero =>
    intro k hk σ' hf hL2 hD2
    obtain rfl : k = 60 := by omega
    refine ax_load (q := 83) rfl rfl rfl rfl rfl ?_
    refine ax_const (q := 85) (v := am_I 60) rfl rfl rfl ?_
    refine ax_icmp_ge (q := 88) (x := 102) rfl rfl (fun h85 => ?_) (fun h => absurd h (by omega))
    refine ax_load (q := 103) rfl rfl rfl rfl rfl ?_
    refine ax_getf (q := 106) (v := am_R 70) rfl rfl (rfl) ?_
    refine ax_const (q := 107) (v := am_I 2) rfl rfl rfl ?_
    refine ax_callv (q := 110) rfl rfl rfl rfl rfl rfl ?_
    refine x_countOf (by omega) hL2 hV ?_
    refine ax_ret (r := some (am_I ((mo_ T (ys_ T u 60) 2 : Nat) : Int))) rfl rfl ?_
    exact hQ _ hf
  | succ m ih =>
    intro k hk σ' hf hL2 hD2
    have hWk := hW.ys hV k
    refine ax_load (q := 83) rfl rfl rfl rfl rfl ?_
    refine ax_const (q := 85) (v := am_I 60) rfl rfl rfl ?_
    refine ax_icmp_ge (q := 88) (x := 102) rfl rfl (fun h => absurd h (by omega)) (fun h85 => ?_)
    refine ax_load (q := 89) rfl rfl rfl rfl rfl ?_
    refine ax_getf (q := 92) (v := am_R 70) rfl rfl (rfl) ?_
    refine ax_callv (q := 95) rfl rfl rfl rfl rfl rfl ?_
    refine x_passYear (by omega) hL2 hV hWk (by omega) hD2 (fun σ2 hf2 hL3 hD3 => ?_)
    refine ax_pop (q := 96) rfl rfl rfl ?_
    refine ax_iinc (q := 99) (z' := ((k + 1 : Nat) : Int)) (L' := [some (am_R 0), some (am_I x), some (am_I y), some (am_I ((k + 1 : Nat) : Int))]) rfl rfl rfl rfl (am_we (by omega) (by omega) (by omega)) rfl ?_
    refine ax_goto (x := 82) rfl ?_
    exact ih (k + 1) (by omega) σ2 (xf_tr hf (xf_py hf2) (by simp)) hL3 hD3

theorem x_dal0 {d : Nat} (hd : 7 ≤ d) {σ : am_S} {t : Nat} {T : sp_T} {v : sp_V} (hL : PL_ 68 t T v σ) (hV : TV_ T) {b : Int} (hW : VV_ T b v) (hb9 : b < 900000) (hD : DN_ T v) {Q : Option am_V → am_S → Prop} (hQ : ∀ σ', xf_ [71, t + 31] σ σ' → Q (some (am_I ((mo_ T (ys_ T v 60) 2 : Nat) : Int))) σ') : am_Ev d 128 [am_R 0, am_I (-1), am_I (-1)] σ Q := by
  obtain ⟨d, rfl⟩ : ∃ e, d = e + 1 := ⟨d - 1, by omega⟩
  have h6 := hV.nP
  have hO8 := hV.nO
  have hS4 := hV.nS
  have hR3 := hV.nR
  refine ev_in (m := 128) (c := k_X8_doneAtLast) (L := [some (am_R 0), some (am_I (-1)), some (am_I (-1)), none]) rfl rfl rfl rfl rfl rfl ?_
  refine ax_load (q := 1) rfl rfl rfl rfl rfl ?_
  refine ax_getf (q := 4) (v := am_R 70) rfl rfl (rfl) ?_
  refine ax_load (q := 5) rfl rfl rfl rfl rfl ?_
  refine ax_getf (q := 8) (v := am_R 68) rfl rfl (rfl) ?_
  refine ax_callv (q := 11) rfl rfl rfl rfl rfl rfl ?_
  refine x_copy (by omega) hL (by omega) (fun σ1 c1 c2 c3 c4 hL1 => ?_)
  have hf1 : xf_ [71, t + 31] σ σ1 := xf_cp c1 c2 c3 c4
  refine ax_const (q := 12) (v := am_I 0) rfl rfl rfl ?_
  refine ax_store (q := 13) (L' := [some (am_R 0), some (am_I (-1)), some (am_I (-1)), some (am_I 0)]) rfl rfl rfl rfl rfl rfl ?_
  refine ax_load (q := 14) rfl rfl rfl rfl rfl ?_
  refine ax_const (q := 15) (v := am_I (-1)) rfl rfl rfl ?_
  refine ax_icmp_eq (q := 18) (x := 80) rfl rfl (fun h15 => ?_) (fun h => absurd rfl h)
  refine ax_const (q := 81) (v := am_I 0) rfl rfl rfl ?_
  refine ax_store (q := 82) (L' := [some (am_R 0), some (am_I (-1)), some (am_I (-1)), some (am_I 0)]) rfl rfl rfl rfl rfl rfl ?_
  exact xl_law (by omega) hV hW hb9 hQ 60 0 (by omega) σ1 hf1 hL1 hD

theorem xl_rp {d : Nat} (hd : 6 ≤ d) {σ : am_S} {t : Nat} {T : sp_T} {v : sp_V} (hL : PL_ 68 t T v σ) (hV : TV_ T) {b : Int} (hW : VV_ T b v) (hb9 : b < 900000) (hD : DN_ T v) {o z : Nat} (ho : o < nO_ T) (hz : z < nO_ T) {Q : Option am_V → am_S → Prop} (hQ : ∀ σ', xf_ [71, t + 31] σ σ' → Q (some (am_I ((di_ T v (o : Int) (z : Int) : Nat) : Int))) σ') : ∀ (m k : Nat), k + m = nP_ T → ∀ σ', xf_ [71, t + 31] σ σ' → PL_ 70 t T (rp_ v (o : Int) (z : Int) k) σ' → aW d 0 k_X8_doneAtLast Q 13 [some (am_R 0), some (am_I ((o : Nat) : Int)), some (am_I ((z : Nat) : Int)), some (am_I ((k : Nat) : Int))] [] σ' := by
  have h6 := hV.nP
  have hO8 := hV.nO
  have hS4 := hV.nS
  have hR3 := hV.nR
  have ht := hL.ht
  have hWr := fun k hk => VV_.rp (o := (o : Int)) hW (z := (z : Int)) (by omega) k hk h6.2
  have hDr := fun k hk => DN_.rp hD h6.2 (o := (o : Int)) (z := (z : Int)) k hk
  intro m
  induction m with
  | zero =>
    intro k hk σ' hf hL2
    obtain hk2 : k = nP_ T := by omega
    subst hk2
    refine ax_load (q := 14) rfl rfl rfl rfl rfl ?_
    refine ax_const (q := 15) (v := am_I (-1)) rfl rfl rfl ?_
    refine ax_icmp_eq (q := 18) (x := 80) rfl rfl (fun h => absurd h (by omega)) (fun h15 => ?_)
    refine ax_load (q := 19) rfl rfl rfl rfl rfl ?_
    refine ax_load (q := 20) rfl rfl rfl rfl rfl ?_
    refine ax_getf (q := 23) (v := am_R 70) rfl rfl (rfl) ?_
    refine ax_getf (q := 26) (v := am_R t) rfl rfl (am_fgR rfl hL2.to) ?_
    refine ax_getf (q := 29) (v := am_R (t + 1)) rfl rfl (xg7_0 hL2.xt.ht) ?_
    refine ax_const (q := 30) (v := am_I 0) rfl rfl rfl ?_
    refine bx_iald (q := 31) (k := 0) (z := (((nP_ T) : Nat) : Int)) rfl rfl (kd_1 hL2.xt.ht) (by omega) (by omega) (hL2.xt.c0.trans hV.nP.1) ?_
    refine ax_icmp_ge (q := 34) (x := 80) rfl rfl (fun h31 => ?_) (fun h => absurd h (by omega))
    refine ax_const (q := 81) (v := am_I 0) rfl rfl rfl ?_
    refine ax_store (q := 82) (L' := [some (am_R 0), some (am_I ((o : Nat) : Int)), some (am_I ((z : Nat) : Int)), some (am_I 0)]) rfl rfl rfl rfl rfl rfl ?_
    exact xl_law (by omega) hV (hWr _ (Nat.le_refl _)) hb9 hQ 60 0 (by omega) σ' hf hL2 (hDr _ (Nat.le_refl _))
  | succ m ih =>
    intro k hk σ' hf hL2
    have hkn : k < nP_ T := by omega
    have hst : rp_ v (o : Int) (z : Int) (k + 1) = if sh_ (rp_ v (o : Int) (z : Int) k) k && decide ((rp_ v (o : Int) (z : Int) k) (6 + k) = (o : Int)) then am_up (rp_ v (o : Int) (z : Int) k) (6 + k) (z : Int) else (rp_ v (o : Int) (z : Int) k) := rfl
    refine ax_load (q := 14) rfl rfl rfl rfl rfl ?_
    refine ax_const (q := 15) (v := am_I (-1)) rfl rfl rfl ?_
    refine ax_icmp_eq (q := 18) (x := 80) rfl rfl (fun h => absurd h (by omega)) (fun h15 => ?_)
    refine ax_load (q := 19) rfl rfl rfl rfl rfl ?_
    refine ax_load (q := 20) rfl rfl rfl rfl rfl ?_
    refine ax_getf (q := 23) (v := am_R 70) rfl rfl (rfl) ?_
    refine ax_getf (q := 26) (v := am_R t) rfl rfl (am_fgR rfl hL2.to) ?_
    refine ax_getf (q := 29) (v := am_R (t + 1)) rfl rfl (xg7_0 hL2.xt.ht) ?_
    refine ax_const (q := 30) (v := am_I 0) rfl rfl rfl ?_
    refine bx_iald (q := 31) (k := 0) (z := (((nP_ T) : Nat) : Int)) rfl rfl (kd_1 hL2.xt.ht) (by omega) (by omega) (hL2.xt.c0.trans hV.nP.1) ?_
    refine ax_icmp_ge (q := 34) (x := 80) rfl rfl (fun h => absurd h (by omega)) (fun h31 => ?_)
    refine ax_load (q := 35) rfl rfl rfl rfl rfl ?_
    refine ax_getf (q := 38) (v := am_R 70) rfl rfl (rfl) ?_
    refine ax_load (q := 39) rfl rfl rfl rfl rfl ?_
    refine ax_callv (q := 42) rfl rfl rfl rfl rfl rfl ?_
    refine x_isOpened (by omega) hL2 hV hkn ?_
    refine ax_if_ne (q := 45) (x := 74) rfl rfl (fun h42 => ?_) (fun h42 => ?_)
    · have hb := nt_n0 h42
      refine ax_iinc (q := 77) (z' := ((k + 1 : Nat) : Int)) (L' := [some (am_R 0), some (am_I ((o : Nat) : Int)), some (am_I ((z : Nat) : Int)), some (am_I ((k + 1 : Nat) : Int))]) rfl rfl rfl rfl (am_we (by omega) (by omega) (by omega)) rfl ?_
      refine ax_goto (x := 13) rfl ?_
      rw [if_neg (by first | (rw [hb]; simp; done) | (rw [decide_eq_false (by omega), Bool.and_false]; decide))] at hst
      refine ih (k + 1) (by omega) σ' hf ?_
      rw [hst]
      exact hL2
    · have hb := nt_0 h42
      refine ax_load (q := 46) rfl rfl rfl rfl rfl ?_
      refine ax_getf (q := 49) (v := am_R 70) rfl rfl (rfl) ?_
      refine ax_getf (q := 52) (v := am_R 71) rfl rfl (rfl) ?_
      refine ax_const (q := 54) (v := am_I 18) rfl rfl rfl ?_
      refine ax_load (q := 55) rfl rfl rfl rfl rfl ?_
      refine ax_iadd (q := 56) (z := ((18 + k : Nat) : Int)) rfl rfl (am_we (by omega) (by omega) (by omega)) ?_
      refine bx_iald (q := 57) (k := 18 + k) (z := (rp_ v (o : Int) (z : Int) k) (6 + k)) rfl rfl (rfl) (by omega) (by omega) (hL2.rw.hd _ (by omega)) ?_
      refine ax_load (q := 58) rfl rfl rfl rfl rfl ?_
      refine ax_icmp_ne (q := 61) (x := 74) rfl rfl (fun h58 => ?_) (fun h58 => ?_)
      · refine ax_iinc (q := 77) (z' := ((k + 1 : Nat) : Int)) (L' := [some (am_R 0), some (am_I ((o : Nat) : Int)), some (am_I ((z : Nat) : Int)), some (am_I ((k + 1 : Nat) : Int))]) rfl rfl rfl rfl (am_we (by omega) (by omega) (by omega)) rfl ?_
        refine ax_goto (x := 13) rfl ?_
        rw [if_neg (by first | (rw [hb]; simp; done) | (rw [decide_eq_false (by omega), Bool.and_false]; decide))] at hst
        refine ih (k + 1) (by omega) σ' hf ?_
        rw [hst]
        exact hL2
      · refine ax_load (q := 62) rfl rfl rfl rfl rfl ?_
        refine ax_getf (q := 65) (v := am_R 70) rfl rfl (rfl) ?_
        refine ax_getf (q := 68) (v := am_R 71) rfl rfl (rfl) ?_
        refine ax_const (q := 70) (v := am_I 18) rfl rfl rfl ?_
        refine ax_load (q := 71) rfl rfl rfl rfl rfl ?_
        refine ax_iadd (q := 72) (z := ((18 + k : Nat) : Int)) rfl rfl (am_we (by omega) (by omega) (by omega)) ?_
        refine ax_load (q := 73) rfl rfl rfl rfl rfl ?_
        refine bx_iast (q := 74) (k := 18 + k) rfl rfl (rfl) (by omega) (by omega) ?_
        refine ax_iinc (q := 77) (z' := ((k + 1 : Nat) : Int)) (L' := [some (am_R 0), some (am_I ((o : Nat) : Int)), some (am_I ((z : Nat) : Int)), some (am_I ((k + 1 : Nat) : Int))]) rfl rfl rfl rfl (am_we (by omega) (by omega) (by omega)) rfl ?_
        refine ax_goto (x := 13) rfl ?_
        rw [if_pos (by rw [hb, decide_eq_true (by omega)]; rfl)] at hst
        have hfx : fr_ [70 + 1, t + 31] σ' (am_sI σ' 71 (am_up (σ'.1 71) (18 + k) ((z : Nat) : Int))) := fr_sI (fr_rf _ _) (by simp)
        refine ih (k + 1) (by omega) _ (xf_tr hf (xf_py hfx) (by simp)) ?_
        rw [hst]
        exact hL2.up hfx (by rw [sI_at]; exact hL2.rw.hd_ h6.2 hkn)

theorem x_dal {d : Nat} (hd : 7 ≤ d) {σ : am_S} {t : Nat} {T : sp_T} {v : sp_V} (hL : PL_ 68 t T v σ) (hV : TV_ T) {b : Int} (hW : VV_ T b v) (hb9 : b < 900000) (hD : DN_ T v) {o z : Nat} (ho : o < nO_ T) (hz : z < nO_ T) {Q : Option am_V → am_S → Prop} (hQ : ∀ σ', xf_ [71, t + 31] σ σ' → Q (some (am_I ((di_ T v (o : Int) (z : Int) : Nat) : Int))) σ') : am_Ev d 128 [am_R 0, am_I ((o : Nat) : Int), am_I ((z : Nat) : Int)] σ Q := by
  obtain ⟨d, rfl⟩ : ∃ e, d = e + 1 := ⟨d - 1, by omega⟩
  have h6 := hV.nP
  have hO8 := hV.nO
  have hS4 := hV.nS
  have hR3 := hV.nR
  refine ev_in (m := 128) (c := k_X8_doneAtLast) (L := [some (am_R 0), some (am_I ((o : Nat) : Int)), some (am_I ((z : Nat) : Int)), none]) rfl rfl rfl rfl rfl rfl ?_
  refine ax_load (q := 1) rfl rfl rfl rfl rfl ?_
  refine ax_getf (q := 4) (v := am_R 70) rfl rfl (rfl) ?_
  refine ax_load (q := 5) rfl rfl rfl rfl rfl ?_
  refine ax_getf (q := 8) (v := am_R 68) rfl rfl (rfl) ?_
  refine ax_callv (q := 11) rfl rfl rfl rfl rfl rfl ?_
  refine x_copy (by omega) hL (by omega) (fun σ1 c1 c2 c3 c4 hL1 => ?_)
  have hf1 : xf_ [71, t + 31] σ σ1 := xf_cp c1 c2 c3 c4
  refine ax_const (q := 12) (v := am_I 0) rfl rfl rfl ?_
  refine ax_store (q := 13) (L' := [some (am_R 0), some (am_I ((o : Nat) : Int)), some (am_I ((z : Nat) : Int)), some (am_I 0)]) rfl rfl rfl rfl rfl rfl ?_
  exact xl_rp (by omega) hL hV hW hb9 hD ho hz hQ (nP_ T) 0 (by omega) σ1 hf1 hL1

theorem x_law {d : Nat} (hd : 8 ≤ d) {σ : am_S} {t : Nat} {T : sp_T} {v : sp_V} (hL : PL_ 68 t T v σ) (hV : TV_ T) {b : Int} (hW : VV_ T b v) (hb9 : b < 900000) (hD : DN_ T v) {a c : Int} {Q : Option am_V → am_S → Prop} (hQ : ∀ σ', xf_ [71, t + 31] σ σ' → Q (some (am_I (F_law T v a c))) σ') : am_Ev d 127 [am_R 0, am_I a, am_I c] σ Q := by
  obtain ⟨d, rfl⟩ : ∃ e, d = e + 1 := ⟨d - 1, by omega⟩
  have h6 := hV.nP
  have hO8 := hV.nO
  have hS4 := hV.nS
  have hR3 := hV.nR
  have hm1 : mo_ T (ys_ T v 60) 2 ≤ nP_ T := ct_le _ _
  have hm2 : ∀ p r : Int, di_ T v p r ≤ nP_ T := fun _ _ => ct_le _ _
  refine ev_in (m := 127) (c := k_X8_law) (L := [some (am_R 0), some (am_I a), some (am_I c), none]) rfl rfl rfl rfl rfl rfl ?_
  refine ax_load (q := 1) rfl rfl rfl rfl rfl ?_
  refine ax_load (q := 2) rfl rfl rfl rfl rfl ?_
  refine ax_icmp_eq (q := 5) (x := 35) rfl rfl (fun h2 => ?_) (fun h2 => ?_)
  · refine ax_const (q := 37) (v := am_I (-100)) rfl rfl rfl ?_
    refine ax_ret (r := some (am_I (-100))) rfl rfl ?_
    refine Eq.mp (congrArg (fun z => Q (some (am_I z)) _) ?_) (hQ _ (xf_rf _ _))
    unfold F_law
    first | (rw [hb17]; rfl) | (rw [hb17, hb32]; rfl) | (rw [decide_eq_false (show ¬ ¬ a = c by omega), Bool.and_false, Bool.and_false]; rfl)
  · refine ax_load (q := 6) rfl rfl rfl rfl rfl ?_
    refine ax_getf (q := 9) (v := am_R 68) rfl rfl (rfl) ?_
    refine ax_getf (q := 12) (v := am_R t) rfl rfl (am_fgR rfl hL.to) ?_
    refine ax_const (q := 13) (v := am_I 2) rfl rfl rfl ?_
    refine ax_load (q := 14) rfl rfl rfl rfl rfl ?_
    refine ax_callv (q := 17) rfl rfl rfl rfl rfl (kd_0 hL.ht) ?_
    refine x_has2 (by omega) hL.xt hV ?_
    rw [hs_i]
    refine ax_if_eq (q := 20) (x := 35) rfl rfl (fun h17 => ?_) (fun h17 => ?_)
    · have hb17 := it_0 h17
      refine ax_const (q := 37) (v := am_I (-100)) rfl rfl rfl ?_
      refine ax_ret (r := some (am_I (-100))) rfl rfl ?_
      refine Eq.mp (congrArg (fun z => Q (some (am_I z)) _) ?_) (hQ _ (xf_rf _ _))
      unfold F_law
      first | (rw [hb17]; rfl) | (rw [hb17, hb32]; rfl) | (rw [decide_eq_false (show ¬ ¬ a = c by omega), Bool.and_false, Bool.and_false]; rfl)
    · have hb17 := it_n0 h17
      obtain ⟨p, rfl, hp⟩ := inr_t hb17
      refine ax_load (q := 21) rfl rfl rfl rfl rfl ?_
      refine ax_getf (q := 24) (v := am_R 68) rfl rfl (rfl) ?_
      refine ax_getf (q := 27) (v := am_R t) rfl rfl (am_fgR rfl hL.to) ?_
      refine ax_const (q := 28) (v := am_I 2) rfl rfl rfl ?_
      refine ax_load (q := 29) rfl rfl rfl rfl rfl ?_
      refine ax_callv (q := 32) rfl rfl rfl rfl rfl (kd_0 hL.ht) ?_
      refine x_has2 (by omega) hL.xt hV ?_
      rw [hs_i]
      refine ax_if_ne (q := 35) (x := 38) rfl rfl (fun h32 => ?_) (fun h32 => ?_)
      · have hb32 := it_n0 h32
        obtain ⟨r, rfl, hr⟩ := inr_t hb32
        refine ax_load (q := 39) rfl rfl rfl rfl rfl ?_
        refine ax_const (q := 40) (v := am_I (-1)) rfl rfl rfl ?_
        refine ax_const (q := 41) (v := am_I (-1)) rfl rfl rfl ?_
        refine ax_callv (q := 44) rfl rfl rfl rfl rfl rfl ?_
        have ht := hL.ht
        refine x_dal0 (by omega) hL hV hW hb9 hD (fun σ1 hf1 => ?_)
        have hL1 : PL_ 68 t T v σ1 := hL.xf hf1 (by intro a ha; simp at ha; omega)
        refine ax_store (q := 45) (L' := [some (am_R 0), some (am_I ((p : Nat) : Int)), some (am_I ((r : Nat) : Int)), some (am_I ((mo_ T (ys_ T v 60) 2 : Nat) : Int))]) rfl rfl rfl rfl rfl rfl ?_
        refine ax_load (q := 46) rfl rfl rfl rfl rfl ?_
        refine ax_load (q := 47) rfl rfl rfl rfl rfl ?_
        refine ax_load (q := 48) rfl rfl rfl rfl rfl ?_
        refine ax_callv (q := 51) rfl rfl rfl rfl rfl rfl ?_
        refine x_dal (by omega) hL1 hV hW hb9 hD hp hr (fun σ2 hf2 => ?_)
        refine ax_load (q := 52) rfl rfl rfl rfl rfl ?_
        refine ax_isub (q := 53) (z := ((di_ T v (p : Int) (r : Int) : Nat) : Int) - ((mo_ T (ys_ T v 60) 2 : Nat) : Int)) rfl rfl (am_we rfl (by have := hm2 (p : Int) (r : Int); omega) (by have := hm2 (p : Int) (r : Int); omega)) ?_
        refine ax_ret (r := some (am_I (((di_ T v (p : Int) (r : Int) : Nat) : Int) - ((mo_ T (ys_ T v 60) 2 : Nat) : Int)))) rfl rfl ?_
        refine Eq.mp (congrArg (fun z => Q (some (am_I z)) _) ?_) (hQ _ (xf_tr hf1 hf2 (by simp)))
        unfold F_law
        rw [hb17, hb32, decide_eq_true (show ¬ (p : Int) = (r : Int) by omega)]
        have e : di_ T v (p : Int) (p : Int) = mo_ T (ys_ T v 60) 2 := by unfold di_; rw [rp_id]
        rw [e]
        rfl
      · have hb32 := it_0 h32
        refine ax_const (q := 37) (v := am_I (-100)) rfl rfl rfl ?_
        refine ax_ret (r := some (am_I (-100))) rfl rfl ?_
        refine Eq.mp (congrArg (fun z => Q (some (am_I z)) _) ?_) (hQ _ (xf_rf _ _))
        unfold F_law
        first | (rw [hb17]; rfl) | (rw [hb17, hb32]; rfl) | (rw [decide_eq_false (show ¬ ¬ a = c by omega), Bool.and_false, Bool.and_false]; rfl)

