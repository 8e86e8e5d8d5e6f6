def gq_ (S : List Nat) : Nat → Nat
  | 0 => 0
  | s + 1 => gq_ S s + S.getD s 0
theorem gq_le {S : List Nat} (h : ∀ k, S.getD k 0 ≤ 12) : ∀ s, gq_ S s ≤ 12 * s
  | 0 => Nat.le_refl _
  | s + 1 => by have := gq_le h s; have := h s; show gq_ S s + S.getD s 0 ≤ _; omega
theorem gs_at {T : sp_T} {v : sp_V} {p : Nat} (hp : p < 6) (S : List Nat) : ∀ s, s ≤ 4 → gs_ T v p S s p = v p + (gq_ S s : Int) ∧ gs_ T v p S s 49 = v 49 + (gq_ S s : Int) ∧ ∀ j, j < 4 → s ≤ j → gs_ T v p S s (24 + 4 * p + j) = v (24 + 4 * p + j)
  | 0, _ => ⟨by show v p = _ + ((0 : Nat) : Int); simp, by show v 49 = _ + ((0 : Nat) : Int); simp, fun _ _ _ => rfl⟩
  | s + 1, h => by
    obtain ⟨h1, h2, h3⟩ := gs_at (T := T) (v := v) hp S s (by omega)
    have g := gz_at (T := T) (v := gs_ T v p S s) hp (show s < 4 by omega) (S.getD s 0)
    refine ⟨?_, ?_, fun j hj hsj => ?_⟩
    · show gz_ T (gs_ T v p S s) p (s : Int) (S.getD s 0) p = _ + ((gq_ S s + S.getD s 0 : Nat) : Int)
      rw [g.2.1, h1]; omega
    · show gz_ T (gs_ T v p S s) p (s : Int) (S.getD s 0) 49 = _ + ((gq_ S s + S.getD s 0 : Nat) : Int)
      rw [g.2.2.1, h2]; omega
    · show gz_ T (gs_ T v p S s) p (s : Int) (S.getD s 0) (24 + 4 * p + j) = _
      rw [g.2.2.2 j hj (by omega), h3 j hj (by omega)]
theorem gs_lv {T : sp_T} {v : sp_V} {p : Nat} (hp : p < 6) (S : List Nat) {s : Nat} (hs : s < 4) : gs_ T v p S (s + 1) (24 + 4 * p + s) = lb_ T s (v p + (gq_ S s : Int)) (v 49 + (gq_ S s : Int)) (v (24 + 4 * p + s)) (S.getD s 0) ∧ ∀ j, j < 4 → j ≠ s → gs_ T v p S (s + 1) (24 + 4 * p + j) = gs_ T v p S s (24 + 4 * p + j) := by
  obtain ⟨h1, h2, h3⟩ := gs_at (T := T) (v := v) hp S s (by omega)
  have g := gz_at (T := T) (v := gs_ T v p S s) hp hs (S.getD s 0)
  refine ⟨?_, fun j hj hjs => g.2.2.2 j hj hjs⟩
  show gz_ T (gs_ T v p S s) p (s : Int) (S.getD s 0) (24 + 4 * p + s) = _
  rw [g.1, h1, h2, h3 s hs (Nat.le_refl _)]
theorem gs_ne {T : sp_T} {v : sp_V} {p j : Nat} (hV : TV_ T) (hp : p < 6) (h1 : j ≠ p) (h2 : j ≠ 49) (h3 : j < 24 ∨ 48 ≤ j) (S : List Nat) : ∀ s, s ≤ nS_ T → gs_ T v p S s j = v j
  | 0, _ => rfl
  | s + 1, h => by
    have := hV.nS
    show gz_ T (gs_ T v p S s) p (s : Int) (S.getD s 0) j = _
    rw [gz_ne hV hp (by omega) h1 h2 h3, gs_ne hV hp h1 h2 h3 S s (by omega)]

theorem xl_live2 {d : Nat} (hd : 3 ≤ d) {σ : am_S} {t : Nat} {T : sp_T} {v : sp_V} (hL : PL_ 68 t T v σ) (hV : TV_ T) {b : Int} (hW : VV_ T b v) (hb9 : b < 900000) {p n : Nat} (hp : p < nP_ T) (hn4 : n ≤ 4) {S : List Nat} (hS : ∀ k, S.getD k 0 ≤ 12) {s : Nat} (hs : s < n) (hpe : σ.1 119 4 = (p : Int)) (hsp : σ.1 121 s = (S.getD s 0 : Int)) {Q : Option am_V → am_S → Prop} (hQ : ∀ σ', fr_ [t + 31] σ σ' → aW d 4 k_X3_liveSpread Q 68 [some (am_R 119), some (am_I ((n : Nat) : Int)), some (am_I ((gq_ S s + S.getD s 0 : Nat) : Int)), some (am_I ((s : Nat) : Int)), some (am_I (lb_ T s (v p + (gq_ S s : Int)) (v 49 + (gq_ S s : Int)) (v (24 + 4 * p + s)) (S.getD s 0))), some (am_I ((S.getD s 0 : Nat) : Int))] [] σ') : ∀ (m k : Nat), k + m = S.getD s 0 → ∀ σ', fr_ [t + 31] σ σ' → aW d 4 k_X3_liveSpread Q 31 [some (am_R 119), some (am_I ((n : Nat) : Int)), some (am_I ((gq_ S s + k : Nat) : Int)), some (am_I ((s : Nat) : Int)), some (am_I (lb_ T s (v p + (gq_ S s : Int)) (v 49 + (gq_ S s : Int)) (v (24 + 4 * p + s)) k)), some (am_I ((k : Nat) : Int))] [] σ' := by
  have h6 := hV.nP
  have hO8 := hV.nO
  have hS4 := hV.nS
  have hR3 := hV.nR
  have ht := hL.ht
  have hgl := gq_le hS s
  have hSs := hS s
  have hlb := lb_bd T s (v p + (gq_ S s : Int)) (v 49 + (gq_ S s : Int)) ((hW.2.2 p hp).2.2.2.2 s (by omega))
  intro m
  induction m with
  | zero =>
    intro k hk σ' hf
    obtain hk2 : k = S.getD s 0 := by omega
    subst hk2
    have hL2 : PL_ 68 t T v σ' := hL.fr hf (by intro a ha; simp at ha; omega)
    refine ax_load (q := 33) rfl rfl rfl rfl rfl ?_
    refine ax_load (q := 34) rfl rfl rfl rfl rfl ?_
    refine ax_getf (q := 37) (v := am_R 121) rfl rfl (rfl) ?_
    refine ax_load (q := 38) rfl rfl rfl rfl rfl ?_
    refine bx_iald (q := 39) (k := s) (z := ((S.getD s 0 : Nat) : Int)) rfl rfl (rfl) (by omega) (by omega) (by rw [hf.1 121 (by simp; omega)]; exact hsp) ?_
    refine ax_icmp_ge (q := 42) (x := 68) rfl rfl (fun h39 => ?_) (fun h => absurd h (by omega))
    exact hQ σ' hf
  | succ m ih =>
    intro k hk σ' hf
    have hL2 : PL_ 68 t T v σ' := hL.fr hf (by intro a ha; simp at ha; omega)
    refine ax_load (q := 33) rfl rfl rfl rfl rfl ?_
    refine ax_load (q := 34) rfl rfl rfl rfl rfl ?_
    refine ax_getf (q := 37) (v := am_R 121) rfl rfl (rfl) ?_
    refine ax_load (q := 38) rfl rfl rfl rfl rfl ?_
    refine bx_iald (q := 39) (k := s) (z := ((S.getD s 0 : Nat) : Int)) rfl rfl (rfl) (by omega) (by omega) (by rw [hf.1 121 (by simp; omega)]; exact hsp) ?_
    refine ax_icmp_ge (q := 42) (x := 68) rfl rfl (fun h => absurd h (by omega)) (fun h39 => ?_)
    refine ax_load (q := 43) rfl rfl rfl rfl rfl ?_
    refine ax_getf (q := 46) (v := am_R 68) rfl rfl (rfl) ?_
    refine ax_load (q := 47) rfl rfl rfl rfl rfl ?_
    refine ax_getf (q := 50) (v := am_I ((p : Nat) : Int)) rfl rfl (am_fg rfl (by rw [hf.1 119 (by simp; omega)]; exact hpe)) ?_
    refine ax_load (q := 51) rfl rfl rfl rfl rfl ?_
    refine ax_load (q := 53) rfl rfl rfl rfl rfl ?_
    refine ax_load (q := 54) rfl rfl rfl rfl rfl ?_
    refine ax_callv (q := 57) rfl rfl rfl rfl rfl rfl ?_
    refine x_levelNext (g := gq_ S s + k) (by omega) hL2 hV hp (by omega) (hlb k) hW (by omega) (by omega) (fun σ2 hf2 => ?_)
    refine ax_store (q := 59) (L' := [some (am_R 119), some (am_I ((n : Nat) : Int)), some (am_I ((gq_ S s + k : Nat) : Int)), some (am_I ((s : Nat) : Int)), some (am_I (lv_n T (lb_ T s (v p + (gq_ S s : Int)) (v 49 + (gq_ S s : Int)) (v (24 + 4 * p + s)) k) (v p + ((gq_ S s + k : Nat) : Int)) (v 49 + ((gq_ S s + k : Nat) : Int)) s)), some (am_I ((k : Nat) : Int))]) rfl rfl rfl rfl rfl rfl ?_
    refine ax_iinc (q := 62) (z' := (((gq_ S s + k) + 1 : Nat) : Int)) (L' := [some (am_R 119), some (am_I ((n : Nat) : Int)), some (am_I (((gq_ S s + k) + 1 : Nat) : Int)), some (am_I ((s : Nat) : Int)), some (am_I (lv_n T (lb_ T s (v p + (gq_ S s : Int)) (v 49 + (gq_ S s : Int)) (v (24 + 4 * p + s)) k) (v p + ((gq_ S s + k : Nat) : Int)) (v 49 + ((gq_ S s + k : Nat) : Int)) s)), some (am_I ((k : Nat) : Int))]) rfl rfl rfl rfl (am_we (by omega) (by omega) (by omega)) rfl ?_
    refine ax_iinc (q := 65) (z' := ((k + 1 : Nat) : Int)) (L' := [some (am_R 119), some (am_I ((n : Nat) : Int)), some (am_I (((gq_ S s + k) + 1 : Nat) : Int)), some (am_I ((s : Nat) : Int)), some (am_I (lv_n T (lb_ T s (v p + (gq_ S s : Int)) (v 49 + (gq_ S s : Int)) (v (24 + 4 * p + s)) k) (v p + ((gq_ S s + k : Nat) : Int)) (v 49 + ((gq_ S s + k : Nat) : Int)) s)), some (am_I ((k + 1 : Nat) : Int))]) rfl rfl rfl rfl (am_we (by omega) (by omega) (by omega)) rfl ?_
    refine ax_goto (x := 31) rfl ?_
    have e : lb_ T s (v p + (gq_ S s : Int)) (v 49 + (gq_ S s : Int)) (v (24 + 4 * p + s)) (k + 1) = lv_n T (lb_ T s (v p + (gq_ S s : Int)) (v 49 + (gq_ S s : Int)) (v (24 + 4 * p + s)) k) (v p + ((gq_ S s + k : Nat) : Int)) (v 49 + ((gq_ S s + k : Nat) : Int)) s := by show lv_n T _ (v p + (gq_ S s : Int) + (k : Int)) (v 49 + (gq_ S s : Int) + (k : Int)) s = _; rw [show v p + ((gq_ S s : Nat) : Int) + (k : Int) = v p + ((gq_ S s + k : Nat) : Int) by omega, show v 49 + ((gq_ S s : Nat) : Int) + (k : Int) = v 49 + ((gq_ S s + k : Nat) : Int) by omega]
    have g := ih (k + 1) (by omega) σ2 (fr_tr hf hf2 (by simp))
    rw [e] at g
    exact g

theorem xl_live1 {d : Nat} (hd : 3 ≤ d) {σ : am_S} {t : Nat} {T : sp_T} {v : sp_V} (hL : PL_ 68 t T v σ) (hV : TV_ T) {b : Int} (hW : VV_ T b v) (hb9 : b < 900000) {p n : Nat} (hp : p < nP_ T) (hn4 : n ≤ 4) {S : List Nat} (hS : ∀ k, S.getD k 0 ≤ 12) (hpe : σ.1 119 4 = (p : Int)) (hsp : ∀ k, k < n → σ.1 121 k = (S.getD k 0 : Int)) {Q : Option am_V → am_S → Prop} (hQ : ∀ σ', fr_ [122, t + 31] σ σ' → (∀ j, j < 4 → σ'.1 122 j = if j < n then gs_ T v p S n (24 + 4 * p + j) else σ.1 122 j) → Q none σ') : ∀ (m s : Nat) (x4 x5 : Option am_V), s + m = n → ∀ σ', fr_ [122, t + 31] σ σ' → (∀ j, j < 4 → σ'.1 122 j = if j < s then gs_ T v p S s (24 + 4 * p + j) else σ.1 122 j) → aW d 4 k_X3_liveSpread Q 4 [some (am_R 119), some (am_I ((n : Nat) : Int)), some (am_I ((gq_ S s : Nat) : Int)), some (am_I ((s : Nat) : Int)), x4, x5] [] σ' := by
  have h6 := hV.nP
  have hO8 := hV.nO
  have hS4 := hV.nS
  have hR3 := hV.nR
  have ht := hL.ht
  intro m
  induction m with
  | zero =>
    intro s x4 x5 hs σ' hf hlv
    obtain hs2 : s = n := by omega
    subst hs2
    refine ax_load (q := 5) rfl rfl rfl rfl rfl ?_
    refine ax_load (q := 6) rfl rfl rfl rfl rfl ?_
    refine ax_icmp_ge (q := 9) (x := 82) rfl rfl (fun h6 => ?_) (fun h => absurd h (by omega))
    refine ax_ret (r := none) rfl rfl ?_
    exact hQ _ hf hlv
  | succ m ih =>
    intro s x4 x5 hs σ' hf hlv
    have hL2 : PL_ 68 t T v σ' := hL.fr hf (by intro a ha; simp at ha; omega)
    have hgl := gq_le hS s
    have hpe2 : σ'.1 119 4 = (p : Int) := by rw [hf.1 119 (by simp; omega)]; exact hpe
    have hsp2 : σ'.1 121 s = (S.getD s 0 : Int) := by rw [hf.1 121 (by simp; omega)]; exact hsp s (by omega)
    refine ax_load (q := 5) rfl rfl rfl rfl rfl ?_
    refine ax_load (q := 6) rfl rfl rfl rfl rfl ?_
    refine ax_icmp_ge (q := 9) (x := 82) rfl rfl (fun h => absurd h (by omega)) (fun h6 => ?_)
    refine ax_load (q := 10) rfl rfl rfl rfl rfl ?_
    refine ax_const (q := 11) (v := am_I 4) rfl rfl rfl ?_
    refine ax_icmp_ge (q := 14) (x := 82) rfl rfl (fun h => absurd h (by omega)) (fun h11 => ?_)
    refine ax_load (q := 15) rfl rfl rfl rfl rfl ?_
    refine ax_getf (q := 18) (v := am_R 68) rfl rfl (rfl) ?_
    refine ax_load (q := 19) rfl rfl rfl rfl rfl ?_
    refine ax_getf (q := 22) (v := am_I ((p : Nat) : Int)) rfl rfl (am_fg rfl hpe2) ?_
    refine ax_load (q := 23) rfl rfl rfl rfl rfl ?_
    refine ax_callv (q := 26) rfl rfl rfl rfl rfl rfl ?_
    refine x_levelOf (by omega) hL2 hV hp (by omega) ?_
    refine ax_store (q := 28) (L' := [some (am_R 119), some (am_I ((n : Nat) : Int)), some (am_I ((gq_ S s : Nat) : Int)), some (am_I ((s : Nat) : Int)), some (am_I (v (24 + 4 * p + s))), x5]) rfl rfl rfl rfl rfl rfl ?_
    refine ax_const (q := 29) (v := am_I 0) rfl rfl rfl ?_
    refine ax_store (q := 31) (L' := [some (am_R 119), some (am_I ((n : Nat) : Int)), some (am_I ((gq_ S s : Nat) : Int)), some (am_I ((s : Nat) : Int)), some (am_I (v (24 + 4 * p + s))), some (am_I 0)]) rfl rfl rfl rfl rfl rfl ?_
    refine xl_live2 hd hL2 hV hW hb9 hp hn4 hS (s := s) (by omega) hpe2 hsp2 (fun σ2 hf2 => ?_) (S.getD s 0) 0 (by omega) σ' (fr_rf _ _)
    refine ax_load (q := 69) rfl rfl rfl rfl rfl ?_
    refine ax_getf (q := 72) (v := am_R 122) rfl rfl (rfl) ?_
    refine ax_load (q := 73) rfl rfl rfl rfl rfl ?_
    refine ax_load (q := 75) rfl rfl rfl rfl rfl ?_
    refine bx_iast (q := 76) (k := s) rfl rfl (rfl) (by omega) (by omega) ?_
    refine ax_iinc (q := 79) (z' := ((s + 1 : Nat) : Int)) (L' := [some (am_R 119), some (am_I ((n : Nat) : Int)), some (am_I ((gq_ S s + S.getD s 0 : Nat) : Int)), some (am_I ((s + 1 : Nat) : Int)), some (am_I (lb_ T s (v p + (gq_ S s : Int)) (v 49 + (gq_ S s : Int)) (v (24 + 4 * p + s)) (S.getD s 0))), some (am_I ((S.getD s 0 : Nat) : Int))]) rfl rfl rfl rfl (am_we (by omega) (by omega) (by omega)) rfl ?_
    refine ax_goto (x := 4) rfl ?_
    have g := gs_lv (T := T) (v := v) (p := p) (by omega) S (s := s) (by omega)
    refine ih (s + 1) _ _ (by omega) _ (fr_sI (fr_tr hf hf2 (by simp)) (by simp)) (fun j hj => ?_)
    rw [sI_at]
    by_cases q : j = s
    · rw [q, am_up_same, if_pos (by omega), g.1]
    · rw [am_up_ne q, hf2.1 122 (by simp; omega), hlv j hj]
      by_cases w : j < s
      · rw [if_pos w, if_pos (by omega), g.2 j hj q]
      · rw [if_neg w, if_neg (by omega)]

theorem x_liveSpread {d : Nat} (hd : 4 ≤ d) {σ : am_S} {t : Nat} {T : sp_T} {v : sp_V} (hL : PL_ 68 t T v σ) (hV : TV_ T) {b : Int} (hW : VV_ T b v) (hb9 : b < 900000) {p n : Nat} (hp : p < nP_ T) (hn4 : n ≤ 4) {S : List Nat} (hS : ∀ k, S.getD k 0 ≤ 12) (hpe : σ.1 119 4 = (p : Int)) (hsp : ∀ k, k < n → σ.1 121 k = (S.getD k 0 : Int)) {Q : Option am_V → am_S → Prop} (hQ : ∀ σ', fr_ [122, t + 31] σ σ' → (∀ j, j < 4 → σ'.1 122 j = if j < n then gs_ T v p S n (24 + 4 * p + j) else σ.1 122 j) → Q none σ') : am_Ev d 39 [am_R 119, am_I ((n : Nat) : Int)] σ Q := by
  obtain ⟨d, rfl⟩ : ∃ e, d = e + 1 := ⟨d - 1, by omega⟩
  refine ev_in (m := 39) (c := k_X3_liveSpread) (L := [some (am_R 119), some (am_I ((n : Nat) : Int)), none, none, none, none]) rfl rfl rfl rfl rfl rfl ?_
  refine ax_const (q := 1) (v := am_I 0) rfl rfl rfl ?_
  refine ax_store (q := 2) (L' := [some (am_R 119), some (am_I ((n : Nat) : Int)), some (am_I 0), none, none, none]) rfl rfl rfl rfl rfl rfl ?_
  refine ax_const (q := 3) (v := am_I 0) rfl rfl rfl ?_
  refine ax_store (q := 4) (L' := [some (am_R 119), some (am_I ((n : Nat) : Int)), some (am_I 0), some (am_I 0), none, none]) rfl rfl rfl rfl rfl rfl ?_
  exact xl_live1 (by omega) hL hV hW hb9 hp hn4 hS hpe hsp hQ n 0 _ _ (by omega) σ (fr_rf _ _) (fun j hj => rfl)

