theorem gz_at {T : sp_T} {v : sp_V} {p s : Nat} (hp : p < 6) (hs : s < 4) : ∀ n : Nat, gz_ T v p (s : Int) n (24 + 4 * p + s) = lb_ T s (v p) (v 49) (v (24 + 4 * p + s)) n ∧ gz_ T v p (s : Int) n p = v p + (n : Int) ∧ gz_ T v p (s : Int) n 49 = v 49 + (n : Int) ∧ ∀ s', s' < 4 → s' ≠ s → gz_ T v p (s : Int) n (24 + 4 * p + s') = v (24 + 4 * p + s')
  | 0 => ⟨rfl, by show v p = _; simp, by show v 49 = _; simp, fun _ _ _ => rfl⟩
  | n + 1 => by
    obtain ⟨h1, h2, h3, h4⟩ := gz_at (T := T) (v := v) hp hs n
    obtain ⟨u, hu⟩ : ∃ u, u = gz_ T v p (s : Int) n := ⟨_, rfl⟩
    have e : gz_ T v p (s : Int) (n + 1) = ga_ T u p (s : Int) := by rw [hu]; rfl
    rw [← hu] at h1 h2 h3 h4
    have el : ln_ T u p (s : Int) = am_up u (24 + 4 * p + s) (lv_n T (u (24 + 4 * p + s)) (u p) (u 49) s) := by unfold ln_; rw [if_neg (by omega), Int.toNat_natCast]
    rw [e]
    unfold ga_
    rw [el]
    refine ⟨?_, ?_, ?_, fun s' h5 h6 => ?_⟩
    · rw [am_up_ne (by omega), am_up_ne (by omega), am_up_same, h1, h2, h3]
      rfl
    · rw [am_up_ne (by omega), am_up_same, am_up_ne (by omega), h2]
      omega
    · rw [am_up_same, am_up_ne (by omega), h3]
      omega
    · rw [am_up_ne (by omega), am_up_ne (by omega), am_up_ne (by omega), h4 s' h5 h6]
theorem rd_eq {T : sp_T} {v : sp_V} (hV : TV_ T) {p o : Nat} (hp : p < 6) (ho : o < nO_ T) : ∀ m n, rd_ T p o m n (gz_ T v p (T 151 o) n) = yr2_ T (sk_ T o) (v p) (v 49) (v (24 + 4 * p + sk_ T o)) (T 152 o) m n
  | 0, _ => rfl
  | m + 1, n => by
    have hsk := hV.sk ho
    have ih := rd_eq (v := v) hV hp ho m (n + 1)
    have h := (gz_at (T := T) (v := v) hp hsk.2.2 n).1
    show (if cn_ T (gz_ T v p (T 151 o) n) p o = true then (n : Int) else rd_ T p o m (n + 1) (gz_ T v p (T 151 o) (n + 1))) = (if T 152 o ≤ lb_ T (sk_ T o) (v p) (v 49) (v (24 + 4 * p + sk_ T o)) n then (n : Int) else yr2_ T (sk_ T o) (v p) (v 49) (v (24 + 4 * p + sk_ T o)) (T 152 o) m (n + 1))
    rw [ih]
    unfold cn_
    rw [hsk.1, h]
    simp
theorem lb_mono (T : sp_T) (s : Nat) (a y : Int) {l : Int} (h : 0 ≤ l ∧ l ≤ 20) : ∀ k, l ≤ lb_ T s a y l k
  | 0 => Int.le_refl _
  | k + 1 => by
    have ih := lb_mono T s a y h k
    have hb := lb_bd T s a y h k
    have hg := gn_bd T (ak_ (lb_ T s a y l k) (a + (k : Int)) (y + (k : Int)) s)
    show l ≤ lv_n T _ _ _ _
    unfold lv_n
    split <;> omega
theorem an_x {p : Nat → Bool} {n s : Nat} (hs : s < n) (h : ∀ j, j < n → p j = true → p s = true) : an_ n p = p s := by
  cases q : p s with
  | true =>
    cases w : an_ n p with
    | true => rfl
    | false => have := (an_f n).mp w s hs; rw [q] at this; cases this
  | false =>
    refine (an_f n).mpr (fun j hj => ?_)
    cases w : p j with
    | false => rfl
    | true => have := h j hj w; rw [q] at this; cases this
def lp_o (T : sp_T) (v : sp_V) (p : Nat) (o : Nat) : Bool := decide (0 < T 158 (8 * pa_ T p + o)) && decide (lb_ T (sk_ T o) (v p) (v 49) (v (24 + 4 * p + sk_ T o)) (yf_ T v p) < T 152 o)
theorem lo_eq {T : sp_T} {v : sp_V} {b : Int} (hV : TV_ T) (hW : VV_ T b v) {p : Nat} (hp : p < nP_ T) : lo_ T v p (nS_ T) = bi_ (nO_ T) (lp_o T v p) := by
  have h6 := hV.nP
  have h4 := hV.nS
  refine bi_eq _ (fun o ho => ?_)
  have hsk := hV.sk ho
  have hl := (hW.2.2 p hp).2.2.2.2 (sk_ T o) hsk.2.2
  have e1 : cn_ T (gz_ T v p ((sk_ T o : Nat) : Int) (yf_ T v p)) p o = decide (T 152 o ≤ lb_ T (sk_ T o) (v p) (v 49) (v (24 + 4 * p + sk_ T o)) (yf_ T v p)) := by
    unfold cn_
    rw [(gz_at (by omega) hsk.2.2 _).1]
  have e2 : an_ (nS_ T) (fun s => cn_ T (gz_ T v p ((s : Nat) : Int) (yf_ T v p)) p o) = cn_ T (gz_ T v p ((sk_ T o : Nat) : Int) (yf_ T v p)) p o := by
    refine an_x (p := fun s => cn_ T (gz_ T v p ((s : Nat) : Int) (yf_ T v p)) p o) hsk.2.1 (fun j hj hc => ?_)
    by_cases q : j = sk_ T o
    · rw [← q]; exact hc
    · show cn_ T (gz_ T v p ((sk_ T o : Nat) : Int) (yf_ T v p)) p o = true
      rw [e1]
      have hm := lb_mono T (sk_ T o) (v p) (v 49) hl (yf_ T v p)
      have hc2 : T 152 o ≤ gz_ T v p ((j : Nat) : Int) (yf_ T v p) (24 + 4 * p + sk_ T o) := of_decide_eq_true hc
      rw [(gz_at (by omega) (by omega) _).2.2.2 _ hsk.2.2 (fun w => q w.symm)] at hc2
      exact decide_eq_true (by omega)
  show (decide (0 < T 158 (8 * pa_ T p + o)) && !an_ (nS_ T) (fun s => cn_ T (gz_ T v p ((s : Nat) : Int) (yf_ T v p)) p o)) = (decide (0 < T 158 (8 * pa_ T p + o)) && decide (lb_ T (sk_ T o) (v p) (v 49) (v (24 + 4 * p + sk_ T o)) (yf_ T v p) < T 152 o))
  rw [e2, e1]
  congr 1
  by_cases w : T 152 o ≤ lb_ T (sk_ T o) (v p) (v 49) (v (24 + 4 * p + sk_ T o)) (yf_ T v p)
  · rw [decide_eq_true w, decide_eq_false (by omega)]; rfl
  · rw [decide_eq_false w, decide_eq_true (by omega)]; rfl

theorem x_ready {d : Nat} (hd : 5 ≤ d) {σ : am_S} {t : Nat} {T : sp_T} {v : sp_V} (hL : PL_ 68 t T v σ) (hV : TV_ T) {b : Int} (hW : VV_ T b v) (hb9 : b < 900000) {a o : Int} {Q : Option am_V → am_S → Prop} (hQ : ∀ σ', xf_ [71, t + 31] σ σ' → Q (some (am_I (F_ready T v a o))) σ') : am_Ev d 120 [am_R 0, am_I a, am_I o] σ Q := by
  obtain ⟨d, rfl⟩ : ∃ e, d = e + 1 := ⟨d - 1, by omega⟩
  have h6 := hV.nP
  have hO8 := hV.nO
  have hS4 := hV.nS
  have hR3 := hV.nR
  refine ev_in (m := 120) (c := k_X8_ready) (L := [some (am_R 0), some (am_I a), some (am_I o)]) rfl rfl rfl rfl rfl rfl ?_
  refine ax_load (q := 1) rfl rfl rfl rfl rfl ?_
  refine ax_load (q := 2) rfl rfl rfl rfl rfl ?_
  refine ax_callv (q := 5) rfl rfl rfl rfl rfl rfl ?_
  refine x_isUnopened (by omega) hL hV ?_
  refine ax_if_eq (q := 8) (x := 23) rfl rfl (fun h5 => ?_) (fun h5 => ?_)
  · have hb5 := it_0 h5
    refine ax_const (q := 24) (v := am_I (-1)) rfl rfl rfl ?_
    refine ax_ret (r := some (am_I (-1))) rfl rfl ?_
    refine Eq.mp (congrArg (fun z => Q (some (am_I z)) _) ?_) (hQ _ (xf_rf _ _))
    unfold F_ready
    unfold inr_ at *
    simp [*]
  · have hb5 := it_n0 h5
    obtain ⟨p, rfl, hp, hsh⟩ := sn_t hb5
    refine ax_load (q := 9) rfl rfl rfl rfl rfl ?_
    refine ax_getf (q := 12) (v := am_R 68) rfl rfl (rfl) ?_
    refine ax_getf (q := 15) (v := am_R t) rfl rfl (am_fgR rfl hL.to) ?_
    refine ax_const (q := 16) (v := am_I 2) rfl rfl rfl ?_
    refine ax_load (q := 17) rfl rfl rfl rfl rfl ?_
    refine ax_callv (q := 20) rfl rfl rfl rfl rfl (kd_0 hL.ht) ?_
    refine x_has2 (by omega) hL.xt hV ?_
    rw [hs_i]
    refine ax_if_ne (q := 23) (x := 25) rfl rfl (fun h20 => ?_) (fun h20 => ?_)
    · have hb20 := it_n0 h20
      obtain ⟨r, rfl, hr⟩ := inr_t hb20
      refine ax_load (q := 26) rfl rfl rfl rfl rfl ?_
      refine ax_getf (q := 29) (v := am_R 68) rfl rfl (rfl) ?_
      refine ax_load (q := 30) rfl rfl rfl rfl rfl ?_
      refine ax_load (q := 31) rfl rfl rfl rfl rfl ?_
      refine ax_callv (q := 34) rfl rfl rfl rfl rfl rfl ?_
      refine x_yearsTillReady (by omega) hL hV hW (by omega) hp hr (fun σ1 hf1 => ?_)
      refine ax_ret (r := some (am_I (yr2_ T (sk_ T r) (v p) (v 49) (v (24 + 4 * p + sk_ T r)) (T 152 r) 61 0))) rfl rfl ?_
      refine Eq.mp (congrArg (fun z => Q (some (am_I z)) _) ?_) (hQ _ (xf_fr hf1 (by simp)))
      unfold F_ready
      rw [hb5, hb20, Int.toNat_natCast, Int.toNat_natCast]
      exact rd_eq hV (by omega) hr 61 0
    · have hb20 := it_0 h20
      refine ax_const (q := 24) (v := am_I (-1)) rfl rfl rfl ?_
      refine ax_ret (r := some (am_I (-1))) rfl rfl ?_
      refine Eq.mp (congrArg (fun z => Q (some (am_I z)) _) ?_) (hQ _ (xf_rf _ _))
      unfold F_ready
      unfold inr_ at *
      simp [*]

theorem xl_lost {d : Nat} (hd : 5 ≤ d) {σ : am_S} {t : Nat} {T : sp_T} {v : sp_V} (hL : PL_ 68 t T v σ) (hV : TV_ T) {b : Int} (hW : VV_ T b v) (hb9 : b < 900000) {p : Nat} (hp : p < nP_ T) {Q : Option am_V → am_S → Prop} (hQ : ∀ σ', fr_ [t + 31] σ σ' → Q (some (am_I ((bi_ (nO_ T) (lp_o T v p) : Nat) : Int))) σ') : ∀ (m k : Nat) (x6 x7 : Option am_V), k + m = nO_ T → ∀ σ', fr_ [t + 31] σ σ' → aW d 0 k_X8_lost Q 37 [some (am_R 0), some (am_I ((p : Nat) : Int)), some (am_R (t + 16 + (pa_ T p))), some (am_I ((yf_ T v p : Nat) : Int)), some (am_I (((bi_ k (lp_o T v p)) : Nat) : Int)), some (am_I ((k : Nat) : Int)), x6, x7] [] σ' := by
  have h6 := hV.nP
  have hO8 := hV.nO
  have hS4 := hV.nS
  have hR3 := hV.nR
  have ht := hL.ht
  have hpa := hV.pa hp
  have hyf := yf_bd hV hW hp
  intro m
  induction m with
  | zero =>
    intro k x6 x7 hk σ' hf
    obtain rfl : k = nO_ T := by omega
    have hL2 : PL_ 68 t T v σ' := hL.fr hf (by intro a ha; simp at ha; omega)
    refine ax_load (q := 39) rfl rfl rfl rfl rfl ?_
    refine ax_load (q := 40) rfl rfl rfl rfl rfl ?_
    refine ax_getf (q := 43) (v := am_R 68) rfl rfl (rfl) ?_
    refine ax_getf (q := 46) (v := am_R t) rfl rfl (am_fgR rfl hL2.to) ?_
    refine ax_getf (q := 49) (v := am_R (t + 1)) rfl rfl (xg7_0 hL2.xt.ht) ?_
    refine ax_const (q := 50) (v := am_I 2) rfl rfl rfl ?_
    refine bx_iald (q := 51) (k := 2) (z := (((nO_ T) : Nat) : Int)) rfl rfl (kd_1 hL2.xt.ht) (by omega) (by omega) (hL2.xt.c2.trans hV.nO.1) ?_
    refine ax_icmp_ge (q := 54) (x := 126) rfl rfl (fun h51 => ?_) (fun h => absurd h (by omega))
    refine ax_load (q := 128) rfl rfl rfl rfl rfl ?_
    refine ax_ret (r := some (am_I (((bi_ (nO_ T) (lp_o T v p)) : Nat) : Int))) rfl rfl ?_
    exact hQ _ hf
  | succ m ih =>
    intro k x6 x7 hk σ' hf
    have hL2 : PL_ 68 t T v σ' := hL.fr hf (by intro a ha; simp at ha; omega)
    have hkO : k < nO_ T := by omega
    have hsk := hV.sk hkO
    have hbl := bi_lt (lp_o T v p) k
    have hp2 : 2 ^ k < 2 ^ 8 := Nat.pow_lt_pow_right (by decide) (by omega)
    refine ax_load (q := 39) rfl rfl rfl rfl rfl ?_
    refine ax_load (q := 40) rfl rfl rfl rfl rfl ?_
    refine ax_getf (q := 43) (v := am_R 68) rfl rfl (rfl) ?_
    refine ax_getf (q := 46) (v := am_R t) rfl rfl (am_fgR rfl hL2.to) ?_
    refine ax_getf (q := 49) (v := am_R (t + 1)) rfl rfl (xg7_0 hL2.xt.ht) ?_
    refine ax_const (q := 50) (v := am_I 2) rfl rfl rfl ?_
    refine bx_iald (q := 51) (k := 2) (z := (((nO_ T) : Nat) : Int)) rfl rfl (kd_1 hL2.xt.ht) (by omega) (by omega) (hL2.xt.c2.trans hV.nO.1) ?_
    refine ax_icmp_ge (q := 54) (x := 126) rfl rfl (fun h => absurd h (by omega)) (fun h51 => ?_)
    refine ax_load (q := 55) rfl rfl rfl rfl rfl ?_
    refine ax_getf (q := 58) (v := am_R 68) rfl rfl (rfl) ?_
    refine ax_getf (q := 61) (v := am_R t) rfl rfl (am_fgR rfl hL2.to) ?_
    refine ax_getf (q := 64) (v := am_R (t + 7)) rfl rfl (xg7_2 hL2.xt.ht) ?_
    refine ax_const (q := 65) (v := am_I 0) rfl rfl rfl ?_
    refine bx_aald (q := 66) (k := 0) (z := t + 8) rfl rfl (Or.inl (kd_7 hL2.xt.ht)) (by omega) (by omega) (by omega) ?_
    refine ax_load (q := 68) rfl rfl rfl rfl rfl ?_
    refine bx_iald (q := 69) (k := k) (z := (((sk_ T k) : Nat) : Int)) rfl rfl (kd_8 hL2.xt.ht) (by omega) (by omega) ((hL2.xt.ask _ (by omega)).trans (hV.sk (by omega)).1) ?_
    refine ax_store (q := 71) (L' := [some (am_R 0), some (am_I ((p : Nat) : Int)), some (am_R (t + 16 + (pa_ T p))), some (am_I ((yf_ T v p : Nat) : Int)), some (am_I (((bi_ k (lp_o T v p)) : Nat) : Int)), some (am_I ((k : Nat) : Int)), some (am_I (((sk_ T k) : Nat) : Int)), x7]) rfl rfl rfl rfl rfl rfl ?_
    refine ax_load (q := 72) rfl rfl rfl rfl rfl ?_
    refine ax_getf (q := 75) (v := am_R 68) rfl rfl (rfl) ?_
    refine ax_load (q := 76) rfl rfl rfl rfl rfl ?_
    refine ax_load (q := 78) rfl rfl rfl rfl rfl ?_
    refine ax_load (q := 79) rfl rfl rfl rfl rfl ?_
    refine ax_callv (q := 82) rfl rfl rfl rfl rfl rfl ?_
    refine x_levelBehind (by omega) hL2 hV hW (by omega) hp hsk.2.2 (by omega) (fun σ2 hf2 => ?_)
    have hL3 : PL_ 68 t T v σ2 := hL2.fr hf2 (by intro a ha; simp at ha; omega)
    refine ax_store (q := 84) (L' := [some (am_R 0), some (am_I ((p : Nat) : Int)), some (am_R (t + 16 + (pa_ T p))), some (am_I ((yf_ T v p : Nat) : Int)), some (am_I (((bi_ k (lp_o T v p)) : Nat) : Int)), some (am_I ((k : Nat) : Int)), some (am_I (((sk_ T k) : Nat) : Int)), some (am_I (lb_ T (sk_ T k) (v p) (v 49) (v (24 + 4 * p + (sk_ T k))) (yf_ T v p)))]) rfl rfl rfl rfl rfl rfl ?_
    refine ax_load (q := 85) rfl rfl rfl rfl rfl ?_
    refine ax_load (q := 87) rfl rfl rfl rfl rfl ?_
    refine bx_iald (q := 88) (k := k) (z := T 158 (8 * (pa_ T p) + k)) rfl rfl (kd_sh hL3.xt.ht (by omega)) (by omega) (by omega) (hL3.xt.sha _ _ (by omega) (by omega)) ?_
    refine ax_if_le (q := 91) (x := 120) rfl rfl (fun h88 => ?_) (fun h88 => ?_)
    · refine ax_iinc (q := 123) (z' := ((k + 1 : Nat) : Int)) (L' := [some (am_R 0), some (am_I ((p : Nat) : Int)), some (am_R (t + 16 + (pa_ T p))), some (am_I ((yf_ T v p : Nat) : Int)), some (am_I (((bi_ k (lp_o T v p)) : Nat) : Int)), some (am_I ((k + 1 : Nat) : Int)), some (am_I (((sk_ T k) : Nat) : Int)), some (am_I (lb_ T (sk_ T k) (v p) (v 49) (v (24 + 4 * p + (sk_ T k))) (yf_ T v p)))]) rfl rfl rfl rfl (am_we (by omega) (by omega) (by omega)) rfl ?_
      refine ax_goto (x := 37) rfl ?_
      have e : bi_ (k + 1) (lp_o T v p) = bi_ k (lp_o T v p) := by show _ + (if lp_o T v p k = true then _ else 0) = _; rw [if_neg (by unfold lp_o; rw [Bool.and_eq_true, decide_eq_true_eq, decide_eq_true_eq]; omega)]; rfl
      have g := ih (k + 1) (some (am_I (((sk_ T k) : Nat) : Int))) (some (am_I (lb_ T (sk_ T k) (v p) (v 49) (v (24 + 4 * p + (sk_ T k))) (yf_ T v p)))) (by omega) σ2 (fr_tr hf hf2 (by simp))
      rw [e] at g
      exact g
    · refine ax_load (q := 93) rfl rfl rfl rfl rfl ?_
      refine ax_load (q := 94) rfl rfl rfl rfl rfl ?_
      refine ax_getf (q := 97) (v := am_R 68) rfl rfl (rfl) ?_
      refine ax_getf (q := 100) (v := am_R t) rfl rfl (am_fgR rfl hL3.to) ?_
      refine ax_getf (q := 103) (v := am_R (t + 7)) rfl rfl (xg7_2 hL3.xt.ht) ?_
      refine ax_const (q := 104) (v := am_I 1) rfl rfl rfl ?_
      refine bx_aald (q := 105) (k := 1) (z := t + 9) rfl rfl (Or.inl (kd_7 hL3.xt.ht)) (by omega) (by omega) (by omega) ?_
      refine ax_load (q := 107) rfl rfl rfl rfl rfl ?_
      refine bx_iald (q := 108) (k := k) (z := T 152 k) rfl rfl (kd_9 hL3.xt.ht) (by omega) (by omega) (hL3.xt.lvl _ (by omega)) ?_
      refine ax_icmp_ge (q := 111) (x := 120) rfl rfl (fun h108 => ?_) (fun h108 => ?_)
      · refine ax_iinc (q := 123) (z' := ((k + 1 : Nat) : Int)) (L' := [some (am_R 0), some (am_I ((p : Nat) : Int)), some (am_R (t + 16 + (pa_ T p))), some (am_I ((yf_ T v p : Nat) : Int)), some (am_I (((bi_ k (lp_o T v p)) : Nat) : Int)), some (am_I ((k + 1 : Nat) : Int)), some (am_I (((sk_ T k) : Nat) : Int)), some (am_I (lb_ T (sk_ T k) (v p) (v 49) (v (24 + 4 * p + (sk_ T k))) (yf_ T v p)))]) rfl rfl rfl rfl (am_we (by omega) (by omega) (by omega)) rfl ?_
        refine ax_goto (x := 37) rfl ?_
        have e : bi_ (k + 1) (lp_o T v p) = bi_ k (lp_o T v p) := by show _ + (if lp_o T v p k = true then _ else 0) = _; rw [if_neg (by unfold lp_o; rw [Bool.and_eq_true, decide_eq_true_eq, decide_eq_true_eq]; omega)]; rfl
        have g := ih (k + 1) (some (am_I (((sk_ T k) : Nat) : Int))) (some (am_I (lb_ T (sk_ T k) (v p) (v 49) (v (24 + 4 * p + (sk_ T k))) (yf_ T v p)))) (by omega) σ2 (fr_tr hf hf2 (by simp))
        rw [e] at g
        exact g
      · refine ax_load (q := 113) rfl rfl rfl rfl rfl ?_
        refine ax_const (q := 114) (v := am_I 1) rfl rfl rfl ?_
        refine ax_load (q := 116) rfl rfl rfl rfl rfl ?_
        refine ax_ishl (q := 117) (z := ((2 ^ k : Nat) : Int)) rfl rfl (am_shl1 k (by omega)) ?_
        refine ax_ior (q := 118) (z := (((bi_ k (lp_o T v p)) + 2 ^ k : Nat) : Int)) rfl rfl (am_or_bit hbl (by omega)) ?_
        refine ax_store (q := 120) (L' := [some (am_R 0), some (am_I ((p : Nat) : Int)), some (am_R (t + 16 + (pa_ T p))), some (am_I ((yf_ T v p : Nat) : Int)), some (am_I (((bi_ k (lp_o T v p)) + 2 ^ k : Nat) : Int)), some (am_I ((k : Nat) : Int)), some (am_I (((sk_ T k) : Nat) : Int)), some (am_I (lb_ T (sk_ T k) (v p) (v 49) (v (24 + 4 * p + (sk_ T k))) (yf_ T v p)))]) rfl rfl rfl rfl rfl rfl ?_
        refine ax_iinc (q := 123) (z' := ((k + 1 : Nat) : Int)) (L' := [some (am_R 0), some (am_I ((p : Nat) : Int)), some (am_R (t + 16 + (pa_ T p))), some (am_I ((yf_ T v p : Nat) : Int)), some (am_I (((bi_ k (lp_o T v p)) + 2 ^ k : Nat) : Int)), some (am_I ((k + 1 : Nat) : Int)), some (am_I (((sk_ T k) : Nat) : Int)), some (am_I (lb_ T (sk_ T k) (v p) (v 49) (v (24 + 4 * p + (sk_ T k))) (yf_ T v p)))]) rfl rfl rfl rfl (am_we (by omega) (by omega) (by omega)) rfl ?_
        refine ax_goto (x := 37) rfl ?_
        have e : bi_ (k + 1) (lp_o T v p) = bi_ k (lp_o T v p) + 2 ^ k := by show _ + (if lp_o T v p k = true then _ else 0) = _; rw [if_pos (by unfold lp_o; rw [decide_eq_true (by omega), decide_eq_true (by omega)]; rfl)]
        have g := ih (k + 1) (some (am_I (((sk_ T k) : Nat) : Int))) (some (am_I (lb_ T (sk_ T k) (v p) (v 49) (v (24 + 4 * p + (sk_ T k))) (yf_ T v p)))) (by omega) σ2 (fr_tr hf hf2 (by simp))
        rw [e] at g
        exact g

theorem x_lost {d : Nat} (hd : 6 ≤ d) {σ : am_S} {t : Nat} {T : sp_T} {v : sp_V} (hL : PL_ 68 t T v σ) (hV : TV_ T) {b : Int} (hW : VV_ T b v) (hb9 : b < 900000) {a : Int} {Q : Option am_V → am_S → Prop} (hQ : ∀ σ', xf_ [71, t + 31] σ σ' → Q (some (am_I (F_lost T v a))) σ') : am_Ev d 121 [am_R 0, am_I a] σ Q := by
  obtain ⟨d, rfl⟩ : ∃ e, d = e + 1 := ⟨d - 1, by omega⟩
  have h6 := hV.nP
  have hO8 := hV.nO
  have hS4 := hV.nS
  have hR3 := hV.nR
  refine ev_in (m := 121) (c := k_X8_lost) (L := [some (am_R 0), some (am_I a), none, none, none, none, none, none]) rfl rfl rfl rfl rfl rfl ?_
  refine ax_load (q := 1) rfl rfl rfl rfl rfl ?_
  refine ax_load (q := 2) rfl rfl rfl rfl rfl ?_
  refine ax_callv (q := 5) rfl rfl rfl rfl rfl rfl ?_
  refine x_isUnopened (by omega) hL hV ?_
  refine ax_if_ne (q := 8) (x := 10) rfl rfl (fun h5 => ?_) (fun h5 => ?_)
  · have hb5 := it_n0 h5
    obtain ⟨p, rfl, hp, hsh⟩ := sn_t hb5
    refine ax_load (q := 11) rfl rfl rfl rfl rfl ?_
    refine ax_getf (q := 14) (v := am_R 68) rfl rfl (rfl) ?_
    refine ax_getf (q := 17) (v := am_R t) rfl rfl (am_fgR rfl hL.to) ?_
    refine ax_load (q := 18) rfl rfl rfl rfl rfl ?_
    refine ax_callv (q := 21) rfl rfl rfl rfl rfl (kd_0 hL.ht) ?_
    have hpa := hV.pa hp
    refine x_sharesOf (by omega) hL.xt hV hp ?_
    refine ax_store (q := 22) (L' := [some (am_R 0), some (am_I ((p : Nat) : Int)), some (am_R (t + 16 + (pa_ T p))), none, none, none, none, none]) rfl rfl rfl rfl rfl rfl ?_
    refine ax_load (q := 23) rfl rfl rfl rfl rfl ?_
    refine ax_getf (q := 26) (v := am_R 68) rfl rfl (rfl) ?_
    refine ax_load (q := 27) rfl rfl rfl rfl rfl ?_
    refine ax_callv (q := 30) rfl rfl rfl rfl rfl rfl ?_
    refine x_yearsTillOpened (by omega) hL hV hp hW (by omega) ?_
    refine ax_store (q := 31) (L' := [some (am_R 0), some (am_I ((p : Nat) : Int)), some (am_R (t + 16 + (pa_ T p))), some (am_I ((yf_ T v p : Nat) : Int)), none, none, none, none]) rfl rfl rfl rfl rfl rfl ?_
    refine ax_const (q := 32) (v := am_I 0) rfl rfl rfl ?_
    refine ax_store (q := 34) (L' := [some (am_R 0), some (am_I ((p : Nat) : Int)), some (am_R (t + 16 + (pa_ T p))), some (am_I ((yf_ T v p : Nat) : Int)), some (am_I 0), none, none, none]) rfl rfl rfl rfl rfl rfl ?_
    refine ax_const (q := 35) (v := am_I 0) rfl rfl rfl ?_
    refine ax_store (q := 37) (L' := [some (am_R 0), some (am_I ((p : Nat) : Int)), some (am_R (t + 16 + (pa_ T p))), some (am_I ((yf_ T v p : Nat) : Int)), some (am_I 0), some (am_I 0), none, none]) rfl rfl rfl rfl rfl rfl ?_
    refine xl_lost (by omega) hL hV hW hb9 hp (fun σ' hf => ?_) (nO_ T) 0 _ _ (by omega) σ (fr_rf _ _)
    refine Eq.mp (congrArg (fun z => Q (some (am_I z)) _) ?_) (hQ _ (xf_fr hf (by simp)))
    unfold F_lost
    rw [if_pos hb5, Int.toNat_natCast, lo_eq hV hW hp]
  · have hb5 := it_0 h5
    refine ax_const (q := 9) (v := am_I (-1)) rfl rfl rfl ?_
    refine ax_ret (r := some (am_I (-1))) rfl rfl ?_
    refine Eq.mp (congrArg (fun z => Q (some (am_I z)) _) ?_) (hQ _ (xf_rf _ _))
    unfold F_lost
    unfold inr_ at *
    simp [*]

theorem xf_cp {t : Nat} {σ σ' : am_S} (h1 : ∀ a, a ≠ 71 → σ'.1 a = σ.1 a) (h2 : ∀ a k, ¬ (a = 70 ∧ k = 1) → σ'.2.2.1 a k = σ.2.2.1 a k) (h3 : σ'.2.1 = σ.2.1) (h4 : σ'.2.2.2 = σ.2.2.2) : xf_ [71, t + 31] σ σ' := ⟨fun a ha => h1 a (fun q => ha (by simp [q])), h3, h2, h4⟩
theorem xf_py {t : Nat} {σ σ' : am_S} (h : fr_ [70 + 1, t + 31] σ σ') : xf_ [71, t + 31] σ σ' := xf_fr h (by intro a ha; exact ha)

theorem xl_will {d : Nat} (hd : 6 ≤ d) {σ : am_S} {t : Nat} {T : sp_T} {v : sp_V} (hL : PL_ 68 t T v σ) (hV : TV_ T) {b : Int} (hW : VV_ T b v) (hb9 : b < 900000) {p n : Nat} (hp : p < nP_ T) (hn : n ≤ 60) {Q : Option am_V → am_S → Prop} (hQ : ∀ σ', xf_ [71, t + 31] σ σ' → Q (some (am_I (ys_ T v n (12 + p)))) σ') : ∀ (m k : Nat), k + m = n → ∀ σ', xf_ [71, t + 31] σ σ' → PL_ 70 t T (ys_ T v k) σ' → DN_ T (ys_ T v k) → aW d 0 k_X8_will Q 40 [some (am_R 0), some (am_I ((p : Nat) : Int)), some (am_I ((n : Nat) : Int)), some (am_I ((k : Nat) : Int))] [] σ' := by
  have h6 := hV.nP
  have hO8 := hV.nO
  have hS4 := hV.nS
  have hR3 := hV.nR
  intro m
  induction m with
  | zero =>
    intro k hk σ' hf hL2 hD2
    obtain rfl : k = n := by omega
    refine ax_load (q := 41) rfl rfl rfl rfl rfl ?_
    refine ax_load (q := 42) rfl rfl rfl rfl rfl ?_
    refine ax_icmp_ge (q := 45) (x := 59) rfl rfl (fun h42 => ?_) (fun h => absurd h (by omega))
    refine ax_load (q := 60) rfl rfl rfl rfl rfl ?_
    refine ax_getf (q := 63) (v := am_R 70) rfl rfl (rfl) ?_
    refine ax_getf (q := 66) (v := am_R 71) rfl rfl (rfl) ?_
    refine ax_const (q := 68) (v := am_I 6) rfl rfl rfl ?_
    refine ax_load (q := 69) rfl rfl rfl rfl rfl ?_
    refine ax_iadd (q := 70) (z := ((6 + p : Nat) : Int)) rfl rfl (am_we (by omega) (by omega) (by omega)) ?_
    refine bx_iald (q := 71) (k := 6 + p) (z := (ys_ T v k) (12 + p)) rfl rfl (rfl) (by omega) (by omega) (hL2.rw.hw _ (by omega)) ?_
    refine ax_ret (r := some (am_I ((ys_ T v k) (12 + p)))) rfl rfl ?_
    exact hQ _ hf
  | succ m ih =>
    intro k hk σ' hf hL2 hD2
    have hWk := hW.ys hV k
    refine ax_load (q := 41) rfl rfl rfl rfl rfl ?_
    refine ax_load (q := 42) rfl rfl rfl rfl rfl ?_
    refine ax_icmp_ge (q := 45) (x := 59) rfl rfl (fun h => absurd h (by omega)) (fun h42 => ?_)
    refine ax_load (q := 46) rfl rfl rfl rfl rfl ?_
    refine ax_getf (q := 49) (v := am_R 70) rfl rfl (rfl) ?_
    refine ax_callv (q := 52) rfl rfl rfl rfl rfl rfl ?_
    refine x_passYear (by omega) hL2 hV hWk (by omega) hD2 (fun σ2 hf2 hL3 hD3 => ?_)
    refine ax_pop (q := 53) rfl rfl rfl ?_
    refine ax_iinc (q := 56) (z' := ((k + 1 : Nat) : Int)) (L' := [some (am_R 0), some (am_I ((p : Nat) : Int)), some (am_I ((n : Nat) : Int)), some (am_I ((k + 1 : Nat) : Int))]) rfl rfl rfl rfl (am_we (by omega) (by omega) (by omega)) rfl ?_
    refine ax_goto (x := 40) rfl ?_
    exact ih (k + 1) (by omega) σ2 (xf_tr hf (xf_py hf2) (by simp)) hL3 hD3

theorem x_will {d : Nat} (hd : 7 ≤ d) {σ : am_S} {t : Nat} {T : sp_T} {v : sp_V} (hL : PL_ 68 t T v σ) (hV : TV_ T) {b : Int} (hW : VV_ T b v) (hb9 : b < 900000) (hD : DN_ T v) {a n : Int} {Q : Option am_V → am_S → Prop} (hQ : ∀ σ', xf_ [71, t + 31] σ σ' → Q (some (am_I (F_will T v a n))) σ') : am_Ev d 122 [am_R 0, am_I a, am_I n] σ Q := by
  obtain ⟨d, rfl⟩ : ∃ e, d = e + 1 := ⟨d - 1, by omega⟩
  have h6 := hV.nP
  have hO8 := hV.nO
  have hS4 := hV.nS
  have hR3 := hV.nR
  refine ev_in (m := 122) (c := k_X8_will) (L := [some (am_R 0), some (am_I a), some (am_I n), none]) rfl rfl rfl rfl rfl rfl ?_
  refine ax_load (q := 1) rfl rfl rfl rfl rfl ?_
  refine ax_getf (q := 4) (v := am_R 68) rfl rfl (rfl) ?_
  refine ax_getf (q := 7) (v := am_R t) rfl rfl (am_fgR rfl hL.to) ?_
  refine ax_const (q := 8) (v := am_I 0) rfl rfl rfl ?_
  refine ax_load (q := 9) rfl rfl rfl rfl rfl ?_
  refine ax_callv (q := 12) rfl rfl rfl rfl rfl (kd_0 hL.ht) ?_
  refine x_has0 (by omega) hL.xt hV ?_
  rw [hs_i]
  refine ax_if_eq (q := 15) (x := 25) rfl rfl (fun h12 => ?_) (fun h12 => ?_)
  · have hb12 := it_0 h12
    refine ax_const (q := 26) (v := am_I (-1)) rfl rfl rfl ?_
    refine ax_ret (r := some (am_I (-1))) rfl rfl ?_
    refine Eq.mp (congrArg (fun z => Q (some (am_I z)) _) ?_) (hQ _ (xf_rf _ _))
    unfold F_will
    rw [hb12]; rfl
  · have hb12 := it_n0 h12
    obtain ⟨p, rfl, hp⟩ := inr_t hb12
    refine ax_load (q := 16) rfl rfl rfl rfl rfl ?_
    refine ax_if_lt (q := 19) (x := 25) rfl rfl (fun h16 => ?_) (fun h16 => ?_)
    · refine ax_const (q := 26) (v := am_I (-1)) rfl rfl rfl ?_
      refine ax_ret (r := some (am_I (-1))) rfl rfl ?_
      refine Eq.mp (congrArg (fun z => Q (some (am_I z)) _) ?_) (hQ _ (xf_rf _ _))
      unfold F_will
      rw [show decide (0 ≤ n ∧ n ≤ 60) = false from decide_eq_false (by omega), Bool.and_false]; rfl
    · refine ax_load (q := 20) rfl rfl rfl rfl rfl ?_
      refine ax_const (q := 22) (v := am_I 60) rfl rfl rfl ?_
      refine ax_icmp_le (q := 25) (x := 27) rfl rfl (fun h22 => ?_) (fun h22 => ?_)
      · refine ax_load (q := 28) rfl rfl rfl rfl rfl ?_
        refine ax_getf (q := 31) (v := am_R 70) rfl rfl (rfl) ?_
        refine ax_load (q := 32) rfl rfl rfl rfl rfl ?_
        refine ax_getf (q := 35) (v := am_R 68) rfl rfl (rfl) ?_
        refine ax_callv (q := 38) rfl rfl rfl rfl rfl rfl ?_
        refine x_copy (by omega) hL (by omega) (fun σ1 c1 c2 c3 c4 hL1 => ?_)
        have hf1 : xf_ [71, t + 31] σ σ1 := xf_cp c1 c2 c3 c4
        refine ax_const (q := 39) (v := am_I 0) rfl rfl rfl ?_
        refine ax_store (q := 40) (L' := [some (am_R 0), some (am_I ((p : Nat) : Int)), some (am_I n), some (am_I 0)]) rfl rfl rfl rfl rfl rfl ?_
        obtain ⟨n, rfl⟩ : ∃ k : Nat, n = (k : Int) := ⟨n.toNat, by omega⟩
        refine xl_will (by omega) hL hV hW hb9 hp (by omega) (fun σ' hf => ?_) n 0 (by omega) σ1 hf1 hL1 hD
        refine Eq.mp (congrArg (fun z => Q (some (am_I z)) _) ?_) (hQ _ hf)
        unfold F_will
        rw [hb12, decide_eq_true (by omega), Int.toNat_natCast, Int.toNat_natCast]
        rfl
      · refine ax_const (q := 26) (v := am_I (-1)) rfl rfl rfl ?_
        refine ax_ret (r := some (am_I (-1))) rfl rfl ?_
        refine Eq.mp (congrArg (fun z => Q (some (am_I z)) _) ?_) (hQ _ (xf_rf _ _))
        unfold F_will
        rw [show decide (0 ≤ n ∧ n ≤ 60) = false from decide_eq_false (by omega), Bool.and_false]; rfl

theorem xl_fnf {d : Nat} {σ : am_S} {t : Nat} {T : sp_T} {u v : sp_V} (hL : PL_ 68 t T v σ) (hL2 : PL_ 70 t T u σ) (hV : TV_ T) {Q : Option am_V → am_S → Prop} : ∀ (m k : Nat), k + m = nP_ T → (hQ : Q (some (am_I (ff_ T u v m k))) σ) → aW d 0 k_X8_firstNewFailure Q 2 [some (am_R 0), some (am_I ((k : Nat) : Int))] [] σ := by
  have h6 := hV.nP
  have hO8 := hV.nO
  have hS4 := hV.nS
  have hR3 := hV.nR
  intro m
  induction m with
  | zero =>
    intro k hk hQ
    obtain rfl : k = nP_ T := by omega
    refine ax_load (q := 3) rfl rfl rfl rfl rfl ?_
    refine ax_load (q := 4) rfl rfl rfl rfl rfl ?_
    refine ax_getf (q := 7) (v := am_R 70) rfl rfl (rfl) ?_
    refine ax_getf (q := 10) (v := am_R t) rfl rfl (am_fgR rfl hL2.to) ?_
    refine ax_getf (q := 13) (v := am_R (t + 1)) rfl rfl (xg7_0 hL.xt.ht) ?_
    refine ax_const (q := 14) (v := am_I 0) rfl rfl rfl ?_
    refine bx_iald (q := 15) (k := 0) (z := (((nP_ T) : Nat) : Int)) rfl rfl (kd_1 hL.xt.ht) (by omega) (by omega) (hL.xt.c0.trans hV.nP.1) ?_
    refine ax_icmp_ge (q := 18) (x := 58) rfl rfl (fun h15 => ?_) (fun h => absurd h (by omega))
    refine ax_const (q := 59) (v := am_I (-1)) rfl rfl rfl ?_
    refine ax_ret (r := some (am_I (-1))) rfl rfl ?_
    exact hQ
  | succ m ih =>
    intro k hk hQ
    have e : ff_ T u v (m + 1) k = if u (12 + k) = 3 ∧ ¬ v (12 + k) = 3 then (k : Int) else ff_ T u v m (k + 1) := rfl
    rw [e] at hQ
    refine ax_load (q := 3) rfl rfl rfl rfl rfl ?_
    refine ax_load (q := 4) rfl rfl rfl rfl rfl ?_
    refine ax_getf (q := 7) (v := am_R 70) rfl rfl (rfl) ?_
    refine ax_getf (q := 10) (v := am_R t) rfl rfl (am_fgR rfl hL2.to) ?_
    refine ax_getf (q := 13) (v := am_R (t + 1)) rfl rfl (xg7_0 hL.xt.ht) ?_
    refine ax_const (q := 14) (v := am_I 0) rfl rfl rfl ?_
    refine bx_iald (q := 15) (k := 0) (z := (((nP_ T) : Nat) : Int)) rfl rfl (kd_1 hL.xt.ht) (by omega) (by omega) (hL.xt.c0.trans hV.nP.1) ?_
    refine ax_icmp_ge (q := 18) (x := 58) rfl rfl (fun h => absurd h (by omega)) (fun h15 => ?_)
    refine ax_load (q := 19) rfl rfl rfl rfl rfl ?_
    refine ax_getf (q := 22) (v := am_R 70) rfl rfl (rfl) ?_
    refine ax_getf (q := 25) (v := am_R 71) rfl rfl (rfl) ?_
    refine ax_const (q := 27) (v := am_I 6) rfl rfl rfl ?_
    refine ax_load (q := 28) rfl rfl rfl rfl rfl ?_
    refine ax_iadd (q := 29) (z := ((6 + k : Nat) : Int)) rfl rfl (am_we (by omega) (by omega) (by omega)) ?_
    refine bx_iald (q := 30) (k := 6 + k) (z := u (12 + k)) rfl rfl (rfl) (by omega) (by omega) (hL2.rw.hw _ (by omega)) ?_
    refine ax_const (q := 31) (v := am_I 3) rfl rfl rfl ?_
    refine ax_icmp_ne (q := 34) (x := 52) rfl rfl (fun h31 => ?_) (fun h31 => ?_)
    · refine ax_iinc (q := 55) (z' := ((k + 1 : Nat) : Int)) (L' := [some (am_R 0), some (am_I ((k + 1 : Nat) : Int))]) rfl rfl rfl rfl (am_we (by omega) (by omega) (by omega)) rfl ?_
      refine ax_goto (x := 2) rfl ?_
      rw [if_neg (by omega)] at hQ
      exact ih (k + 1) (by omega) hQ
    · refine ax_load (q := 35) rfl rfl rfl rfl rfl ?_
      refine ax_getf (q := 38) (v := am_R 68) rfl rfl (rfl) ?_
      refine ax_getf (q := 41) (v := am_R 69) rfl rfl (rfl) ?_
      refine ax_const (q := 43) (v := am_I 6) rfl rfl rfl ?_
      refine ax_load (q := 44) rfl rfl rfl rfl rfl ?_
      refine ax_iadd (q := 45) (z := ((6 + k : Nat) : Int)) rfl rfl (am_we (by omega) (by omega) (by omega)) ?_
      refine bx_iald (q := 46) (k := 6 + k) (z := v (12 + k)) rfl rfl (rfl) (by omega) (by omega) (hL.rw.hw _ (by omega)) ?_
      refine ax_const (q := 47) (v := am_I 3) rfl rfl rfl ?_
      refine ax_icmp_eq (q := 50) (x := 52) rfl rfl (fun h47 => ?_) (fun h47 => ?_)
      · refine ax_iinc (q := 55) (z' := ((k + 1 : Nat) : Int)) (L' := [some (am_R 0), some (am_I ((k + 1 : Nat) : Int))]) rfl rfl rfl rfl (am_we (by omega) (by omega) (by omega)) rfl ?_
        refine ax_goto (x := 2) rfl ?_
        rw [if_neg (by omega)] at hQ
        exact ih (k + 1) (by omega) hQ
      · refine ax_load (q := 51) rfl rfl rfl rfl rfl ?_
        refine ax_ret (r := some (am_I ((k : Nat) : Int))) rfl rfl ?_
        rw [if_pos (by omega)] at hQ
        exact hQ

theorem x_fnf {d : Nat} (hd : 1 ≤ d) {σ : am_S} {t : Nat} {T : sp_T} {u v : sp_V} (hL : PL_ 68 t T v σ) (hL2 : PL_ 70 t T u σ) (hV : TV_ T) {Q : Option am_V → am_S → Prop} (hQ : Q (some (am_I (ff_ T u v (nP_ T) 0))) σ) : am_Ev d 124 [am_R 0] σ Q := by
  obtain ⟨d, rfl⟩ : ∃ e, d = e + 1 := ⟨d - 1, by omega⟩
  refine ev_in (m := 124) (c := k_X8_firstNewFailure) (L := [some (am_R 0), none]) rfl rfl rfl rfl rfl rfl ?_
  refine ax_const (q := 1) (v := am_I 0) rfl rfl rfl ?_
  refine ax_store (q := 2) (L' := [some (am_R 0), some (am_I 0)]) rfl rfl rfl rfl rfl rfl ?_
  exact xl_fnf hL hL2 hV (nP_ T) 0 (by omega) hQ

theorem x_chosen {d : Nat} (hd : 1 ≤ d) {σ : am_S} {k x y : Int} {Q : Option am_V → am_S → Prop} (hQ : Q (some (am_I (if k = 0 then x else if k = 1 then y else -1))) σ) : am_Ev d 96 [am_I k, am_I x, am_I y] σ Q := by
  obtain ⟨d, rfl⟩ : ∃ e, d = e + 1 := ⟨d - 1, by omega⟩
  refine ev_in (m := 96) (c := k_X8_chosen) (L := [some (am_I k), some (am_I x), some (am_I y)]) rfl rfl rfl rfl rfl rfl ?_
  refine ax_load (q := 1) rfl rfl rfl rfl rfl ?_
  by_cases hk : k = 0 ∨ k = 1
  rcases hk with rfl | rfl
  · refine ax_lsw (q := 28) rfl (by decide) ?_
    refine ax_load (q := 29) rfl rfl rfl rfl rfl ?_
    refine ax_ret (r := some (am_I x)) rfl rfl ?_
    refine Eq.mp (congrArg (fun z => Q (some (am_I z)) _) ?_) hQ
    simp [*]
  · refine ax_lsw (q := 30) rfl (by decide) ?_
    refine ax_load (q := 31) rfl rfl rfl rfl rfl ?_
    refine ax_ret (r := some (am_I y)) rfl rfl ?_
    refine Eq.mp (congrArg (fun z => Q (some (am_I z)) _) ?_) hQ
    simp [*]
  · simp only [not_or] at hk
    refine ax_lsw (q := 32) rfl (by unfold am_lsw; simp [Op.lookupswitch.offset, Ne.symm hk.1, Ne.symm hk.2]) ?_
    refine ax_const (q := 33) (v := am_I (-1)) rfl rfl rfl ?_
    refine ax_ret (r := some (am_I (-1))) rfl rfl ?_
    refine Eq.mp (congrArg (fun z => Q (some (am_I z)) _) ?_) hQ
    simp [*]

/-- first, whatever is asked for -/
def fs2_ (T : sp_T) (w : sp_V) (k : Int) : Nat → Nat → sp_V → Int
  | 0, _, _ => -1
  | m + 1, n, u => if ff_ T (yr_ T u) w (nP_ T) 0 = -1 then fs2_ T w k m (n + 1) (yr_ T u) else (if k = 0 then ff_ T (yr_ T u) w (nP_ T) 0 else if k = 1 then (n : Int) else -1)
theorem ff_bd (T : sp_T) (u w : sp_V) : ∀ m p, ff_ T u w m p = -1 ∨ 0 ≤ ff_ T u w m p
  | 0, _ => Or.inl rfl
  | m + 1, p => by
    show (if u (12 + p) = 3 ∧ ¬ w (12 + p) = 3 then (p : Int) else ff_ T u w m (p + 1)) = -1 ∨ 0 ≤ (if u (12 + p) = 3 ∧ ¬ w (12 + p) = 3 then (p : Int) else ff_ T u w m (p + 1))
    split
    · exact Or.inr (by omega)
    · exact ff_bd T u w m (p + 1)
theorem fs2_eq (T : sp_T) (w : sp_V) (k : Int) : ∀ m n u, fs2_ T w k m n u = if 0 ≤ k ∧ k ≤ 1 then fs_ T w k m n u else -1
  | 0, _, _ => by show (-1 : Int) = if _ then (-1) else -1; split <;> rfl
  | m + 1, n, u => by
    have ih := fs2_eq T w k m (n + 1) (yr_ T u)
    have hf := ff_bd T (yr_ T u) w (nP_ T) 0
    show (if ff_ T (yr_ T u) w (nP_ T) 0 = -1 then fs2_ T w k m (n + 1) (yr_ T u) else (if k = 0 then ff_ T (yr_ T u) w (nP_ T) 0 else if k = 1 then (n : Int) else -1)) = if 0 ≤ k ∧ k ≤ 1 then (if 0 ≤ ff_ T (yr_ T u) w (nP_ T) 0 then (if k = 0 then ff_ T (yr_ T u) w (nP_ T) 0 else (n : Int)) else fs_ T w k m (n + 1) (yr_ T u)) else -1
    rw [ih]
    (repeat' split) <;> first | rfl | omega
theorem F_first2 (T : sp_T) (v : sp_V) (k : Int) : F_first T v k = fs2_ T v k 60 1 v := by
  rw [fs2_eq]
  unfold F_first
  by_cases q : 0 ≤ k ∧ k ≤ 1
  · rw [if_pos q, decide_eq_true q]; rfl
  · rw [if_neg q, decide_eq_false q]; rfl

theorem xl_first {d : Nat} (hd : 6 ≤ d) {σ : am_S} {t : Nat} {T : sp_T} {v : sp_V} (hL : PL_ 68 t T v σ) (hV : TV_ T) {b : Int} (hW : VV_ T b v) (hb9 : b < 900000) {c : Int} {Q : Option am_V → am_S → Prop} : ∀ (m k : Nat) (x3 : Option am_V), k + m = 60 → ∀ σ', xf_ [71, t + 31] σ σ' → PL_ 70 t T (ys_ T v k) σ' → DN_ T (ys_ T v k) → (hQ : ∀ σ', xf_ [71, t + 31] σ σ' → Q (some (am_I (fs2_ T v c m (k + 1) (ys_ T v k)))) σ') → aW d 0 k_X8_first Q 13 [some (am_R 0), some (am_I c), some (am_I (((k + 1) : Nat) : Int)), x3] [] σ' := by
  have h6 := hV.nP
  have hO8 := hV.nO
  have hS4 := hV.nS
  have hR3 := hV.nR
  have ht := hL.ht
  intro m
  induction m with
  | zero =>
    intro k x3 hk σ' hf hL2 hD2 hQ
    obtain rfl : k = 60 := by omega
    refine ax_load (q := 14) rfl rfl rfl rfl rfl ?_
    refine ax_const (q := 16) (v := am_I 60) rfl rfl rfl ?_
    refine ax_icmp_gt (q := 19) (x := 50) rfl rfl (fun h16 => ?_) (fun h => absurd h (by omega))
    refine ax_const (q := 51) (v := am_I (-1)) rfl rfl rfl ?_
    refine ax_ret (r := some (am_I (-1))) rfl rfl ?_
    exact hQ _ hf
  | succ m ih =>
    intro k x3 hk σ' hf hL2 hD2 hQ
    have hWk := hW.ys hV k
    have e : fs2_ T v c (m + 1) (k + 1) (ys_ T v k) = if ff_ T (ys_ T v (k + 1)) v (nP_ T) 0 = -1 then fs2_ T v c m (k + 1 + 1) (ys_ T v (k + 1)) else (if c = 0 then ff_ T (ys_ T v (k + 1)) v (nP_ T) 0 else if c = 1 then ((k + 1 : Nat) : Int) else -1) := rfl
    rw [e] at hQ
    refine ax_load (q := 14) rfl rfl rfl rfl rfl ?_
    refine ax_const (q := 16) (v := am_I 60) rfl rfl rfl ?_
    refine ax_icmp_gt (q := 19) (x := 50) rfl rfl (fun h => absurd h (by omega)) (fun h16 => ?_)
    refine ax_load (q := 20) rfl rfl rfl rfl rfl ?_
    refine ax_getf (q := 23) (v := am_R 70) rfl rfl (rfl) ?_
    refine ax_callv (q := 26) rfl rfl rfl rfl rfl rfl ?_
    refine x_passYear (by omega) hL2 hV hWk (by omega) hD2 (fun σ2 hf2 hL3 hD3 => ?_)
    refine ax_pop (q := 27) rfl rfl rfl ?_
    refine ax_load (q := 28) rfl rfl rfl rfl rfl ?_
    refine ax_callv (q := 31) rfl rfl rfl rfl rfl rfl ?_
    have hf3 := xf_tr hf (xf_py hf2) (by simp)
    have hL4 : PL_ 68 t T v σ2 := hL.xf hf3 (by intro a ha; simp at ha; omega)
    refine x_fnf (by omega) hL4 hL3 hV ?_
    refine ax_store (q := 32) (L' := [some (am_R 0), some (am_I c), some (am_I (((k + 1) : Nat) : Int)), some (am_I (ff_ T (ys_ T v (k + 1)) v (nP_ T) 0))]) rfl rfl rfl rfl rfl rfl ?_
    refine ax_load (q := 33) rfl rfl rfl rfl rfl ?_
    refine ax_const (q := 34) (v := am_I (-1)) rfl rfl rfl ?_
    refine ax_icmp_eq (q := 37) (x := 44) rfl rfl (fun h34 => ?_) (fun h34 => ?_)
    · refine ax_iinc (q := 47) (z' := ((((k + 1)) + 1 : Nat) : Int)) (L' := [some (am_R 0), some (am_I c), some (am_I ((((k + 1)) + 1 : Nat) : Int)), some (am_I (ff_ T (ys_ T v (k + 1)) v (nP_ T) 0))]) rfl rfl rfl rfl (am_we (by omega) (by omega) (by omega)) rfl ?_
      refine ax_goto (x := 13) rfl ?_
      rw [if_pos h34] at hQ
      exact ih (k + 1) _ (by omega) σ2 hf3 hL3 hD3 hQ
    · refine ax_load (q := 38) rfl rfl rfl rfl rfl ?_
      refine ax_load (q := 39) rfl rfl rfl rfl rfl ?_
      refine ax_load (q := 40) rfl rfl rfl rfl rfl ?_
      refine ax_calls (q := 43) rfl rfl rfl rfl rfl ?_
      refine x_chosen (by omega) ?_
      refine ax_ret (r := some (am_I (if c = 0 then ff_ T (ys_ T v (k + 1)) v (nP_ T) 0 else if c = 1 then ((k + 1 : Nat) : Int) else -1))) rfl rfl ?_
      rw [if_neg h34] at hQ
      exact hQ _ hf3

theorem x_first {d : Nat} (hd : 7 ≤ d) {σ : am_S} {t : Nat} {T : sp_T} {v : sp_V} (hL : PL_ 68 t T v σ) (hV : TV_ T) {b : Int} (hW : VV_ T b v) (hb9 : b < 900000) (hD : DN_ T v) {c : Int} {Q : Option am_V → am_S → Prop} (hQ : ∀ σ', xf_ [71, t + 31] σ σ' → Q (some (am_I (F_first T v c))) σ') : am_Ev d 123 [am_R 0, am_I c] σ Q := by
  obtain ⟨d, rfl⟩ : ∃ e, d = e + 1 := ⟨d - 1, by omega⟩
  have h6 := hV.nP
  have hO8 := hV.nO
  have hS4 := hV.nS
  have hR3 := hV.nR
  refine ev_in (m := 123) (c := k_X8_first) (L := [some (am_R 0), some (am_I c), none, none]) rfl rfl rfl rfl rfl rfl ?_
  refine ax_load (q := 1) rfl rfl rfl rfl rfl ?_
  refine ax_getf (q := 4) (v := am_R 70) rfl rfl (rfl) ?_
  refine ax_load (q := 5) rfl rfl rfl rfl rfl ?_
  refine ax_getf (q := 8) (v := am_R 68) rfl rfl (rfl) ?_
  refine ax_callv (q := 11) rfl rfl rfl rfl rfl rfl ?_
  refine x_copy (by omega) hL (by omega) (fun σ1 c1 c2 c3 c4 hL1 => ?_)
  have hf1 : xf_ [71, t + 31] σ σ1 := xf_cp c1 c2 c3 c4
  refine ax_const (q := 12) (v := am_I 1) rfl rfl rfl ?_
  refine ax_store (q := 13) (L' := [some (am_R 0), some (am_I c), some (am_I 1), none]) rfl rfl rfl rfl rfl rfl ?_
  rw [F_first2] at hQ
  exact xl_first (by omega) hL hV hW hb9 60 0 _ (by omega) σ1 hf1 hL1 hD hQ

