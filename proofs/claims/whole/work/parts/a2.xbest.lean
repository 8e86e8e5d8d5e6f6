theorem be_app {α : Type} (f : α → Int) : ∀ (l m : List α) (b : Int × α), be_ f (l ++ m) b = be_ f m (be_ f l b)
  | [], _, _ => rfl
  | x :: l, m, b => be_app f l m _
theorem be_up {α : Type} (f : α → Int) : ∀ (l : List α) (b : Int × α), b.1 ≤ (be_ f l b).1 ∧ ∀ x, x ∈ l → f x ≤ (be_ f l b).1
  | [], b => ⟨Int.le_refl _, fun x h => by cases h⟩
  | y :: l, b => by
    have ih := be_up f l (if b.1 < f y then (f y, y) else b)
    have e : be_ f (y :: l) b = be_ f l (if b.1 < f y then (f y, y) else b) := rfl
    rw [e]
    have h : b.1 ≤ (if b.1 < f y then (f y, y) else b).1 ∧ f y ≤ (if b.1 < f y then (f y, y) else b).1 := by
      split
      · exact ⟨by dsimp only; omega, Int.le_refl _⟩
      · exact ⟨Int.le_refl _, by omega⟩
    refine ⟨by omega, fun x hx => ?_⟩
    rcases List.mem_cons.mp hx with q | q
    · rw [q]; omega
    · exact ih.2 x q
def li_ (T : sp_T) (v : sp_V) (p n y i : Nat) : Int × List Nat := be_ (fun S => po_ T (gs_ T v p S n) p) ((List.range i).filterMap (cf_ n y)) (-1, [])
theorem li_s {T : sp_T} {v : sp_V} {p n y i : Nat} : (∀ S, cf_ n y i = some S → li_ T v p n y (i + 1) = if (li_ T v p n y i).1 < po_ T (gs_ T v p S n) p then (po_ T (gs_ T v p S n) p, S) else li_ T v p n y i) ∧ (cf_ n y i = none → li_ T v p n y (i + 1) = li_ T v p n y i) := by
  constructor
  · intro S hS
    unfold li_
    rw [List.range_succ, List.filterMap_append, be_app, List.filterMap_cons, hS]
    rfl
  · intro hS
    unfold li_
    rw [List.range_succ, List.filterMap_append, be_app, List.filterMap_cons, hS]
    rfl
theorem PL_.f9 {t : Nat} {T : sp_T} {v : sp_V} {σ σ' : am_S} (h : PL_ 68 t T v σ) (hf : fr_ [120, 121, 122, t + 31] σ σ') : PL_ 68 t T v σ' := h.fr hf (by have := h.ht; intro a ha; simp at ha; omega)

theorem xl_best {d : Nat} (hd : 4 ≤ d) {σ : am_S} {t : Nat} {T : sp_T} {v : sp_V} (hL : PL_ 68 t T v σ) (hV : TV_ T) {b : Int} (hW : VV_ T b v) (hb9 : b < 900000) {p y : Nat} (hp : p < nP_ T) (hn : 1 ≤ nS_ T) (hy : 1 ≤ y) (hy12 : y ≤ 12) (hpe : σ.1 119 4 = (p : Int)) (h5 : σ.1 119 5 = (y : Int)) (hlv : ∀ s, s < 4 → nS_ T ≤ s → σ.1 122 s = v (24 + 4 * p + s)) {Q : Option am_V → am_S → Prop} (hQ : ∀ σ', fr_ [120, 121, 122, t + 31] σ σ' → ((li_ T v p (nS_ T) y ((y + 1) ^ (nS_ T - 1))).1 = -1 ∨ ∀ k, k < nS_ T → σ'.1 120 k = ((li_ T v p (nS_ T) y ((y + 1) ^ (nS_ T - 1))).2.getD k 0 : Int)) → Q (some (am_I (li_ T v p (nS_ T) y ((y + 1) ^ (nS_ T - 1))).1)) σ') : ∀ (m i : Nat), i + m = ((y + 1) ^ (nS_ T - 1)) → ∀ σ', fr_ [120, 121, 122, t + 31] σ σ' → (∀ s, s < 4 → nS_ T ≤ s → σ'.1 122 s = v (24 + 4 * p + s)) → ((li_ T v p (nS_ T) y i).1 = -1 ∨ ∀ k, k < nS_ T → σ'.1 120 k = ((li_ T v p (nS_ T) y i).2.getD k 0 : Int)) → aW d 0 k_X3_spreadsBest Q 58 [some (am_R 119), some (am_I ((p : Nat) : Int)), some (am_I (((nS_ T) : Nat) : Int)), some (am_I ((((y + 1) ^ (nS_ T - 1)) : Nat) : Int)), some (am_I ((li_ T v p (nS_ T) y i).1)), some (am_I ((i : Nat) : Int))] [] σ' := by
  have h6 := hV.nP
  have hO8 := hV.nO
  have hS4 := hV.nS
  have hR3 := hV.nR
  have ht := hL.ht
  have hN9 : ((y + 1) ^ (nS_ T - 1)) < 10000 := by
    have e1 : (y + 1) ^ (nS_ T - 1) ≤ 13 ^ (nS_ T - 1) := Nat.pow_le_pow_left (by omega) _
    have e2 : 13 ^ (nS_ T - 1) ≤ 13 ^ 3 := Nat.pow_le_pow_right (by decide) (by omega)
    omega
  obtain ⟨ll, q1, q2, q3⟩ := en_ok hn hS4.2 hy hy12
  intro m
  induction m with
  | zero =>
    intro i hi σ' hf hl hb
    obtain hi2 : i = ((y + 1) ^ (nS_ T - 1)) := by omega
    subst hi2
    refine ax_load (q := 60) rfl rfl rfl rfl rfl ?_
    refine ax_load (q := 61) rfl rfl rfl rfl rfl ?_
    refine ax_icmp_ge (q := 64) (x := 114) rfl rfl (fun h61 => ?_) (fun h => absurd h (by omega))
    refine ax_load (q := 116) rfl rfl rfl rfl rfl ?_
    refine ax_ret (r := some (am_I ((li_ T v p (nS_ T) y ((y + 1) ^ (nS_ T - 1))).1))) rfl rfl ?_
    exact hQ _ hf hb
  | succ m ih =>
    intro i hi σ' hf hl hb
    have hL2 : PL_ 68 t T v σ' := hL.f9 hf
    have hpe2 : σ'.1 119 4 = (p : Int) := by rw [hf.1 119 (by simp; omega)]; exact hpe
    have h52 : σ'.1 119 5 = (y : Int) := by rw [hf.1 119 (by simp; omega)]; exact h5
    have hls := li_s (T := T) (v := v) (p := p) (n := nS_ T) (y := y) (i := i)
    refine ax_load (q := 60) rfl rfl rfl rfl rfl ?_
    refine ax_load (q := 61) rfl rfl rfl rfl rfl ?_
    refine ax_icmp_ge (q := 64) (x := 114) rfl rfl (fun h => absurd h (by omega)) (fun h61 => ?_)
    refine ax_load (q := 65) rfl rfl rfl rfl rfl ?_
    refine ax_load (q := 67) rfl rfl rfl rfl rfl ?_
    refine ax_load (q := 68) rfl rfl rfl rfl rfl ?_
    refine ax_callv (q := 71) rfl rfl rfl rfl rfl rfl ?_
    refine x_fills (y := y) (by omega) hn hS4.2 h52 hy12 (by omega) (fun σ2 hf2 hS2 => ?_)
    have hf02 := fr_tr hf hf2 (by simp)
    have hL3 := hL2.f9 (fr_sub hf2 (by simp))
    have hpe3 : σ2.1 119 4 = (p : Int) := by rw [hf2.1 119 (by simp)]; exact hpe2
    refine ax_if_eq (q := 74) (x := 108) rfl rfl (fun h71 => ?_) (fun h71 => ?_)
    · have hc : cf_ (nS_ T) y i = none := by
        cases w : cf_ (nS_ T) y i with
        | none => rfl
        | some S => rw [w] at h71; simp at h71
      refine ax_iinc (q := 111) (z' := ((i + 1 : Nat) : Int)) (L' := [some (am_R 119), some (am_I ((p : Nat) : Int)), some (am_I (((nS_ T) : Nat) : Int)), some (am_I ((((y + 1) ^ (nS_ T - 1)) : Nat) : Int)), some (am_I ((li_ T v p (nS_ T) y i).1)), some (am_I ((i + 1 : Nat) : Int))]) rfl rfl rfl rfl (am_we (by omega) (by omega) (by omega)) rfl ?_
      refine ax_goto (x := 58) rfl ?_
      have hst := hls.2 hc
      have g := ih (i + 1) (by omega) σ2 hf02 (fun s hs hns => by rw [hf2.1 122 (by simp)]; exact hl s hs hns)
      rw [hst] at g
      exact g (by rcases hb with w | w; exact Or.inl w; exact Or.inr (fun k hk => by rw [hf2.1 120 (by simp)]; exact w k hk))
    · obtain ⟨S, hc⟩ : ∃ S, cf_ (nS_ T) y i = some S := by
        cases w : cf_ (nS_ T) y i with
        | none => rw [w] at h71; exact absurd rfl h71
        | some S => exact ⟨S, rfl⟩
      have hS3 := hS2 S hc
      have hmem : S ∈ s0_ (nS_ T) y :: ll := by rw [← q1]; exact List.mem_filterMap.mpr ⟨i, List.mem_range.mpr (by omega), hc⟩
      have hS12 := (q3 S hmem).2
      have hst := hls.1 S hc
      refine ax_load (q := 75) rfl rfl rfl rfl rfl ?_
      refine ax_load (q := 76) rfl rfl rfl rfl rfl ?_
      refine ax_callv (q := 79) rfl rfl rfl rfl rfl rfl ?_
      refine x_liveSpread (S := S) (by omega) hL3 hV hW hb9 hp hS4.2 hS12 hpe3 hS3 (fun σ3 hf3 hlv3 => ?_)
      have hf03 := fr_tr hf02 hf3 (by simp)
      have hL4 := hL3.f9 (fr_sub hf3 (by simp))
      have hR3 : PR_ T v (gs_ T v p S (nS_ T)) p σ3 := by
        refine ⟨by rw [hf3.1 119 (by simp; omega)]; exact hpe3, fun s hs => ?_, gs_ne hV (by omega) (by omega) (by omega) (by omega) S _ (Nat.le_refl _), gs_ne hV (by omega) (by omega) (by omega) (by omega) S _ (Nat.le_refl _)⟩
        rw [hlv3 s hs]
        by_cases q : s < nS_ T
        · rw [if_pos q]
        · rw [if_neg q, hf2.1 122 (by simp), hl s hs (by omega), (gs_at (by omega) S (nS_ T) hS4.2).2.2 s hs (by omega)]
      refine ax_load (q := 80) rfl rfl rfl rfl rfl ?_
      refine ax_callv (q := 83) rfl rfl rfl rfl rfl rfl ?_
      refine x_parts (by omega) hL4 hV hp hR3 hW ?_
      refine ax_load (q := 85) rfl rfl rfl rfl rfl ?_
      refine ax_icmp_le (q := 88) (x := 108) rfl rfl (fun h85 => ?_) (fun h85 => ?_)
      · refine ax_iinc (q := 111) (z' := ((i + 1 : Nat) : Int)) (L' := [some (am_R 119), some (am_I ((p : Nat) : Int)), some (am_I (((nS_ T) : Nat) : Int)), some (am_I ((((y + 1) ^ (nS_ T - 1)) : Nat) : Int)), some (am_I ((li_ T v p (nS_ T) y i).1)), some (am_I ((i + 1 : Nat) : Int))]) rfl rfl rfl rfl (am_we (by omega) (by omega) (by omega)) rfl ?_
        refine ax_goto (x := 58) rfl ?_
        have hl3 : ∀ s, s < 4 → nS_ T ≤ s → σ3.1 122 s = v (24 + 4 * p + s) := fun s hs hns => by rw [hlv3 s hs, if_neg (by omega), hf2.1 122 (by simp)]; exact hl s hs hns
        rw [if_neg (by omega)] at hst
        have g := ih (i + 1) (by omega) σ3 hf03 hl3
        rw [hst] at g
        exact g (by rcases hb with w | w; exact Or.inl w; exact Or.inr (fun k hk => by rw [hf3.1 120 (by simp; omega), hf2.1 120 (by simp)]; exact w k hk))
      · refine ax_load (q := 89) rfl rfl rfl rfl rfl ?_
        refine ax_callv (q := 92) rfl rfl rfl rfl rfl rfl ?_
        refine x_parts (by omega) hL4 hV hp hR3 hW ?_
        refine ax_store (q := 94) (L' := [some (am_R 119), some (am_I ((p : Nat) : Int)), some (am_I (((nS_ T) : Nat) : Int)), some (am_I ((((y + 1) ^ (nS_ T - 1)) : Nat) : Int)), some (am_I (po_ T (gs_ T v p S (nS_ T)) p)), some (am_I ((i : Nat) : Int))]) rfl rfl rfl rfl rfl rfl ?_
        refine ax_load (q := 95) rfl rfl rfl rfl rfl ?_
        refine ax_getf (q := 98) (v := am_R 121) rfl rfl (rfl) ?_
        refine ax_const (q := 99) (v := am_I 0) rfl rfl rfl ?_
        refine ax_load (q := 100) rfl rfl rfl rfl rfl ?_
        refine ax_getf (q := 103) (v := am_R 120) rfl rfl (rfl) ?_
        refine ax_const (q := 104) (v := am_I 0) rfl rfl rfl ?_
        refine ax_const (q := 105) (v := am_I 4) rfl rfl rfl ?_
        refine ax_copy (q := 108) rfl rfl rfl rfl rfl (by decide) (by decide) (by decide) (by decide) (by decide) ?_
        refine ax_iinc (q := 111) (z' := ((i + 1 : Nat) : Int)) (L' := [some (am_R 119), some (am_I ((p : Nat) : Int)), some (am_I (((nS_ T) : Nat) : Int)), some (am_I ((((y + 1) ^ (nS_ T - 1)) : Nat) : Int)), some (am_I (po_ T (gs_ T v p S (nS_ T)) p)), some (am_I ((i + 1 : Nat) : Int))]) rfl rfl rfl rfl (am_we (by omega) (by omega) (by omega)) rfl ?_
        refine ax_goto (x := 58) rfl ?_
        have hl3 : ∀ s, s < 4 → nS_ T ≤ s → σ3.1 122 s = v (24 + 4 * p + s) := fun s hs hns => by rw [hlv3 s hs, if_neg (by omega), hf2.1 122 (by simp)]; exact hl s hs hns
        rw [if_pos (by omega)] at hst
        have g := ih (i + 1) (by omega) (am_sI σ3 120 (va_cpy (σ3.1 121) (σ3.1 120) 0 0 4)) (fr_sI hf03 (by simp)) (fun s hs hns => by rw [sI_ne (by decide)]; exact hl3 s hs hns)
        rw [hst] at g
        exact g (Or.inr (fun k hk => by rw [sI_at, cpy_0 _ _ (by omega), hf3.1 121 (by simp; omega)]; exact hS3 k hk))

theorem xl_num {d : Nat} (hd : 4 ≤ d) {σ : am_S} {t : Nat} {T : sp_T} {v : sp_V} (hL : PL_ 68 t T v σ) (hV : TV_ T) {b : Int} (hW : VV_ T b v) (hb9 : b < 900000) {p y : Nat} (hp : p < nP_ T) (hn : 1 ≤ nS_ T) (hy : 1 ≤ y) (hy12 : y ≤ 12) (hpe : σ.1 119 4 = (p : Int)) (h5 : σ.1 119 5 = (y : Int)) (hlv : ∀ s, s < 4 → nS_ T ≤ s → σ.1 122 s = v (24 + 4 * p + s)) {Q : Option am_V → am_S → Prop} (hQ : ∀ σ', fr_ [120, 121, 122, t + 31] σ σ' → ((li_ T v p (nS_ T) y ((y + 1) ^ (nS_ T - 1))).1 = -1 ∨ ∀ k, k < nS_ T → σ'.1 120 k = ((li_ T v p (nS_ T) y ((y + 1) ^ (nS_ T - 1))).2.getD k 0 : Int)) → Q (some (am_I (li_ T v p (nS_ T) y ((y + 1) ^ (nS_ T - 1))).1)) σ') : ∀ (m k : Nat) (x5 : Option am_V), k + m = nS_ T → 1 ≤ k → aW d 0 k_X3_spreadsBest Q 31 [some (am_R 119), some (am_I ((p : Nat) : Int)), some (am_I (((nS_ T) : Nat) : Int)), some (am_I ((((y + 1) ^ (k - 1)) : Nat) : Int)), some (am_I ((k : Nat) : Int)), x5] [] σ := by
  have h6 := hV.nP
  have hO8 := hV.nO
  have hS4 := hV.nS
  have hR3 := hV.nR
  intro m
  induction m with
  | zero =>
    intro k x5 hk h1k
    obtain hk2 : k = nS_ T := by omega
    subst hk2
    refine ax_load (q := 33) rfl rfl rfl rfl rfl ?_
    refine ax_load (q := 34) rfl rfl rfl rfl rfl ?_
    refine ax_icmp_ge (q := 37) (x := 52) rfl rfl (fun h34 => ?_) (fun h => absurd h (by omega))
    refine ax_const (q := 53) (v := am_I (-1)) rfl rfl rfl ?_
    refine ax_store (q := 55) (L' := [some (am_R 119), some (am_I ((p : Nat) : Int)), some (am_I (((nS_ T) : Nat) : Int)), some (am_I ((((y + 1) ^ ((nS_ T) - 1)) : Nat) : Int)), some (am_I (-1)), x5]) rfl rfl rfl rfl rfl rfl ?_
    refine ax_const (q := 56) (v := am_I 0) rfl rfl rfl ?_
    refine ax_store (q := 58) (L' := [some (am_R 119), some (am_I ((p : Nat) : Int)), some (am_I (((nS_ T) : Nat) : Int)), some (am_I ((((y + 1) ^ ((nS_ T) - 1)) : Nat) : Int)), some (am_I (-1)), some (am_I 0)]) rfl rfl rfl rfl rfl rfl ?_
    exact xl_best hd hL hV hW hb9 hp hn hy hy12 hpe h5 hlv hQ ((y + 1) ^ (nS_ T - 1)) 0 (by omega) σ (fr_rf _ _) hlv (Or.inl rfl)
  | succ m ih =>
    intro k x5 hk h1k
    obtain ⟨A, hA⟩ : ∃ A, A = (y + 1) ^ (k - 1) := ⟨_, rfl⟩
    have hA9 : A ≤ 13 ^ 3 := by rw [hA]; exact Nat.le_trans (Nat.pow_le_pow_left (by omega) _) (Nat.pow_le_pow_right (by decide) (by omega))
    have hB : A * (y + 1) = (y + 1) ^ (k + 1 - 1) := by rw [hA, ← Nat.pow_succ]; congr 1; omega
    have hB9 : A * (y + 1) ≤ 13 ^ 3 * 13 := Nat.mul_le_mul hA9 (by omega)
    rw [← hA]
    refine ax_load (q := 33) rfl rfl rfl rfl rfl ?_
    refine ax_load (q := 34) rfl rfl rfl rfl rfl ?_
    refine ax_icmp_ge (q := 37) (x := 52) rfl rfl (fun h => absurd h (by omega)) (fun h34 => ?_)
    refine ax_load (q := 38) rfl rfl rfl rfl rfl ?_
    refine ax_load (q := 39) rfl rfl rfl rfl rfl ?_
    refine ax_getf (q := 42) (v := am_I ((y : Nat) : Int)) rfl rfl (am_fg rfl h5) ?_
    refine ax_const (q := 43) (v := am_I 1) rfl rfl rfl ?_
    refine ax_iadd (q := 44) (z := ((y + 1 : Nat) : Int)) rfl rfl (am_we (by omega) (by omega) (by omega)) ?_
    refine ax_imul (q := 45) (z := ((A * (y + 1) : Nat) : Int)) rfl rfl (am_we (Int.natCast_mul A (y + 1)).symm (by omega) (by omega)) ?_
    refine ax_store (q := 46) (L' := [some (am_R 119), some (am_I ((p : Nat) : Int)), some (am_I (((nS_ T) : Nat) : Int)), some (am_I ((A * (y + 1) : Nat) : Int)), some (am_I ((k : Nat) : Int)), x5]) rfl rfl rfl rfl rfl rfl ?_
    refine ax_iinc (q := 49) (z' := ((k + 1 : Nat) : Int)) (L' := [some (am_R 119), some (am_I ((p : Nat) : Int)), some (am_I (((nS_ T) : Nat) : Int)), some (am_I ((A * (y + 1) : Nat) : Int)), some (am_I ((k + 1 : Nat) : Int)), x5]) rfl rfl rfl rfl (am_we (by omega) (by omega) (by omega)) rfl ?_
    refine ax_goto (x := 31) rfl ?_
    have g := ih (k + 1) x5 (by omega) (by omega)
    rw [← hB] at g
    exact g

theorem x_best0 {d : Nat} (hd : 6 ≤ d) {σ : am_S} {t : Nat} {T : sp_T} {v : sp_V} (hL : PL_ 68 t T v σ) (hV : TV_ T) {b : Int} (hW : VV_ T b v) (hb9 : b < 900000) {p : Nat} (hp : p < nP_ T) (hn0 : nS_ T = 0) {Q : Option am_V → am_S → Prop} (hQ : ∀ σ', fr_ [119, 120, 121, 122, t + 31] σ σ' → Q (some (am_I (-1))) σ') : am_Ev d 37 [am_R 119, am_I ((p : Nat) : Int)] σ Q := by
  obtain ⟨d, rfl⟩ : ∃ e, d = e + 1 := ⟨d - 1, by omega⟩
  have h6 := hV.nP
  have hO8 := hV.nO
  have hS4 := hV.nS
  have hR3 := hV.nR
  have ht := hL.ht
  have h50 : T 135 50 = 0 := by omega
  refine ev_in (m := 37) (c := k_X3_spreadsBest) (L := [some (am_R 119), some (am_I ((p : Nat) : Int)), none, none, none, none]) rfl rfl rfl rfl rfl rfl ?_
  refine ax_load (q := 1) rfl rfl rfl rfl rfl ?_
  refine ax_load (q := 2) rfl rfl rfl rfl rfl ?_
  refine ax_callv (q := 5) rfl rfl rfl rfl rfl rfl ?_
  refine x_look (by omega) hL hV hW hb9 hp (fun σ1 hf1 hR1 h5 => ?_)
  have hL1 := hL.f8 hf1
  refine ax_load (q := 6) rfl rfl rfl rfl rfl ?_
  refine ax_getf (q := 9) (v := am_R 68) rfl rfl (rfl) ?_
  refine ax_getf (q := 12) (v := am_R t) rfl rfl (am_fgR rfl hL1.to) ?_
  refine ax_getf (q := 15) (v := am_R (t + 1)) rfl rfl (xg7_0 hL1.xt.ht) ?_
  refine ax_const (q := 16) (v := am_I 1) rfl rfl rfl ?_
  refine bx_iald (q := 17) (k := 1) (z := 0) rfl rfl (kd_1 hL1.xt.ht) (by omega) (by omega) (hL1.xt.c1.trans h50) ?_
  refine ax_store (q := 18) (L' := [some (am_R 119), some (am_I ((p : Nat) : Int)), some (am_I 0), none, none, none]) rfl rfl rfl rfl rfl rfl ?_
  refine ax_load (q := 19) rfl rfl rfl rfl rfl ?_
  refine ax_if_ne (q := 22) (x := 26) rfl rfl (fun h => absurd h (by omega)) (fun h19 => ?_)
  refine ax_const (q := 23) (v := am_I 0) rfl rfl rfl ?_
  refine ax_goto (x := 27) rfl ?_
  refine ax_store (q := 28) (L' := [some (am_R 119), some (am_I ((p : Nat) : Int)), some (am_I 0), some (am_I 0), none, none]) rfl rfl rfl rfl rfl rfl ?_
  refine ax_const (q := 29) (v := am_I 1) rfl rfl rfl ?_
  refine ax_store (q := 31) (L' := [some (am_R 119), some (am_I ((p : Nat) : Int)), some (am_I 0), some (am_I 0), some (am_I 1), none]) rfl rfl rfl rfl rfl rfl ?_
  refine ax_load (q := 33) rfl rfl rfl rfl rfl ?_
  refine ax_load (q := 34) rfl rfl rfl rfl rfl ?_
  refine ax_icmp_ge (q := 37) (x := 52) rfl rfl (fun h34 => ?_) (fun h => absurd h (by omega))
  refine ax_const (q := 53) (v := am_I (-1)) rfl rfl rfl ?_
  refine ax_store (q := 55) (L' := [some (am_R 119), some (am_I ((p : Nat) : Int)), some (am_I 0), some (am_I 0), some (am_I (-1)), none]) rfl rfl rfl rfl rfl rfl ?_
  refine ax_const (q := 56) (v := am_I 0) rfl rfl rfl ?_
  refine ax_store (q := 58) (L' := [some (am_R 119), some (am_I ((p : Nat) : Int)), some (am_I 0), some (am_I 0), some (am_I (-1)), some (am_I 0)]) rfl rfl rfl rfl rfl rfl ?_
  refine ax_load (q := 60) rfl rfl rfl rfl rfl ?_
  refine ax_load (q := 61) rfl rfl rfl rfl rfl ?_
  refine ax_icmp_ge (q := 64) (x := 114) rfl rfl (fun h61 => ?_) (fun h => absurd h (by omega))
  refine ax_load (q := 116) rfl rfl rfl rfl rfl ?_
  refine ax_ret (r := some (am_I (-1))) rfl rfl ?_
  exact hQ _ (fr_sub hf1 (by intro a ha; simp at ha ⊢; omega))

theorem x_best {d : Nat} (hd : 6 ≤ d) {σ : am_S} {t : Nat} {T : sp_T} {v : sp_V} (hL : PL_ 68 t T v σ) (hV : TV_ T) {b : Int} (hW : VV_ T b v) (hb9 : b < 900000) {p : Nat} (hp : p < nP_ T) (hn : 1 ≤ nS_ T) (hy12 : yf_ T v p ≤ 12) {Q : Option am_V → am_S → Prop} (hQ : ∀ σ', fr_ [119, 120, 121, 122, t + 31] σ σ' → (∀ k, k < nS_ T → σ'.1 120 k = ((lf_ T v p).2.getD k 0 : Int)) → 0 ≤ (lf_ T v p).1 → Q (some (am_I (lf_ T v p).1)) σ') : am_Ev d 37 [am_R 119, am_I ((p : Nat) : Int)] σ Q := by
  obtain ⟨d, rfl⟩ : ∃ e, d = e + 1 := ⟨d - 1, by omega⟩
  have h6 := hV.nP
  have hO8 := hV.nO
  have hS4 := hV.nS
  have hR3 := hV.nR
  have ht := hL.ht
  have hyf := yf_bd hV hW hp
  have hws := (hW.2.2 p hp).2.2.2.1
  refine ev_in (m := 37) (c := k_X3_spreadsBest) (L := [some (am_R 119), some (am_I ((p : Nat) : Int)), none, none, none, none]) rfl rfl rfl rfl rfl rfl ?_
  refine ax_load (q := 1) rfl rfl rfl rfl rfl ?_
  refine ax_load (q := 2) rfl rfl rfl rfl rfl ?_
  refine ax_callv (q := 5) rfl rfl rfl rfl rfl rfl ?_
  refine x_look (by omega) hL hV hW hb9 hp (fun σ1 hf1 hR1 h5 => ?_)
  have hL1 := hL.f8 hf1
  refine ax_load (q := 6) rfl rfl rfl rfl rfl ?_
  refine ax_getf (q := 9) (v := am_R 68) rfl rfl (rfl) ?_
  refine ax_getf (q := 12) (v := am_R t) rfl rfl (am_fgR rfl hL1.to) ?_
  refine ax_getf (q := 15) (v := am_R (t + 1)) rfl rfl (xg7_0 hL1.xt.ht) ?_
  refine ax_const (q := 16) (v := am_I 1) rfl rfl rfl ?_
  refine bx_iald (q := 17) (k := 1) (z := (((nS_ T) : Nat) : Int)) rfl rfl (kd_1 hL1.xt.ht) (by omega) (by omega) (hL1.xt.c1.trans hV.nS.1) ?_
  refine ax_store (q := 18) (L' := [some (am_R 119), some (am_I ((p : Nat) : Int)), some (am_I (((nS_ T) : Nat) : Int)), none, none, none]) rfl rfl rfl rfl rfl rfl ?_
  refine ax_load (q := 19) rfl rfl rfl rfl rfl ?_
  refine ax_if_ne (q := 22) (x := 26) rfl rfl (fun h19 => ?_) (fun h => absurd h (by omega))
  refine ax_const (q := 27) (v := am_I 1) rfl rfl rfl ?_
  refine ax_store (q := 28) (L' := [some (am_R 119), some (am_I ((p : Nat) : Int)), some (am_I (((nS_ T) : Nat) : Int)), some (am_I 1), none, none]) rfl rfl rfl rfl rfl rfl ?_
  refine ax_const (q := 29) (v := am_I 1) rfl rfl rfl ?_
  refine ax_store (q := 31) (L' := [some (am_R 119), some (am_I ((p : Nat) : Int)), some (am_I (((nS_ T) : Nat) : Int)), some (am_I 1), some (am_I 1), none]) rfl rfl rfl rfl rfl rfl ?_
  have hlv : ∀ s, s < 4 → nS_ T ≤ s → σ1.1 122 s = v (24 + 4 * p + s) := by
    intro s hs hns
    rw [hR1.lv s hs]
    by_cases q : v (18 + p) < 0
    · exact gz_neg q (by omega) hs _
    · obtain ⟨z, hz⟩ : ∃ z : Nat, v (18 + p) = (z : Int) := ⟨(v (18 + p)).toNat, by omega⟩
      rw [hz]
      exact (gz_at (by omega) (by omega) _).2.2.2 s hs (by omega)
  have hli : li_ T v p (nS_ T) (yf_ T v p) ((yf_ T v p + 1) ^ (nS_ T - 1)) = lf_ T v p := rfl
  have hge : 0 ≤ (lf_ T v p).1 := by
    obtain ⟨ll, q1, q2, q3⟩ := en_ok hn hS4.2 hyf.1 hy12
    have hb := (be_up (fun S => po_ T (gs_ T v p S (nS_ T)) p) (en_ (nS_ T) (yf_ T v p)) (-1, [])).2 (s0_ (nS_ T) (yf_ T v p)) (by rw [q1]; exact List.mem_cons_self)
    have hp0 := (po_bd (v := gs_ T v p (s0_ (nS_ T) (yf_ T v p)) (nS_ T)) hV hp).1
    exact Int.le_trans hp0 hb
  refine xl_num (by omega) hL1 hV hW hb9 hp hn hyf.1 hy12 hR1.pe h5 hlv (fun σ' hf' hb' => ?_) (nS_ T - 1) 1 _ (by omega) (Nat.le_refl _)
  rw [hli] at hb' ⊢
  refine hQ _ (fr_tr (fr_sub hf1 (by intro a ha; simp at ha ⊢; omega)) hf' (by intro a ha; simp at ha ⊢; omega)) ?_ hge
  rcases hb' with w | w
  · omega
  · exact w

