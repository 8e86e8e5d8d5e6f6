theorem mb_nd : ((List.range 64).all fun s => decide (mb_ s 6).Nodup) = true := by decide +kernel
theorem mb_nodup {s : Nat} (h : s < 64) : (mb_ s 6).Nodup := by
  have := mb_nd
  rw [List.all_eq_true] at this
  exact of_decide_eq_true (this s (List.mem_range.mpr h))
/-- the rings kept in a row of places -/
def KR_ (M l : List Nat) (f : Nat → Int) : Prop := (∀ k, k < M.length → f (M.getD k 0) = (l.getD k 0 : Int)) ∧ ∀ p, p < 6 → (∀ k, k < M.length → M.getD k 0 ≠ p) → f p = -1
theorem ly_at {M l : List Nat} {y : Nat → Int} (hd : ∀ i j, i < M.length → j < M.length → M.getD i 0 = M.getD j 0 → i = j) : ∀ n, n ≤ M.length → ∀ k, k < n → ly_ M l y n (M.getD k 0) = (l.getD k 0 : Int)
  | 0, _, k, h => absurd h (by omega)
  | n + 1, hn, k, h => by
    show am_up (ly_ M l y n) (M.getD n 0) (l.getD n 0 : Int) (M.getD k 0) = _
    by_cases q : k = n
    · rw [q, am_up_same]
    · rw [am_up_ne (fun w => q (hd k n (by omega) (by omega) w))]
      exact ly_at hd n (by omega) k (by omega)

theorem xl_keep2 {d : Nat} {σ : am_S} {M l : List Nat} (hM : RS5_ M σ) (hl : ∀ k, k < M.length → σ.1 126 k = (l.getD k 0 : Int)) (hdis : ∀ i j, i < M.length → j < M.length → M.getD i 0 = M.getD j 0 → i = j) {Q : Option am_V → am_S → Prop} (hQ : ∀ σ', fr_ [124] σ σ' → KR_ M l (σ'.1 124) → Q none σ') {y : Nat → Int} (hy : ∀ p, p < 6 → y p = -1) : ∀ (m k : Nat), k + m = M.length → ∀ σ', fr_ [124] σ σ' → σ'.1 124 = ly_ M l y k → aW d 4 k_X5_keepRings Q 23 [some (am_R 123), some (am_I ((k : Nat) : Int))] [] σ' := by
  intro m
  induction m with
  | zero =>
    intro k hk σ' hf hv
    obtain hk2 : k = M.length := by omega
    subst hk2
    have hM2 := hM.fr hf (by decide) (by decide)
    refine ax_load (q := 24) rfl rfl rfl rfl rfl ?_
    refine ax_load (q := 25) rfl rfl rfl rfl rfl ?_
    refine ax_getf (q := 28) (v := am_I ((M.length : Nat) : Int)) rfl rfl (am_fg rfl hM2.1) ?_
    refine ax_icmp_ge (q := 31) (x := 54) rfl rfl (fun h28 => ?_) (fun h => absurd h (by omega))
    refine ax_ret (r := none) rfl rfl ?_
    refine hQ _ hf ⟨fun k hk => ?_, fun p hp hno => ?_⟩
    · rw [hv]; exact ly_at hdis _ (Nat.le_refl _) k hk
    · rw [hv, ly_out _ hno]; exact hy p hp
  | succ m ih =>
    intro k hk σ' hf hv
    have hM2 := hM.fr hf (by decide) (by decide)
    have hM6 := hM.2.2.2 k
    have hMl := hM.2.1
    refine ax_load (q := 24) rfl rfl rfl rfl rfl ?_
    refine ax_load (q := 25) rfl rfl rfl rfl rfl ?_
    refine ax_getf (q := 28) (v := am_I ((M.length : Nat) : Int)) rfl rfl (am_fg rfl hM2.1) ?_
    refine ax_icmp_ge (q := 31) (x := 54) rfl rfl (fun h => absurd h (by omega)) (fun h28 => ?_)
    refine ax_load (q := 32) rfl rfl rfl rfl rfl ?_
    refine ax_getf (q := 35) (v := am_R 124) rfl rfl (rfl) ?_
    refine ax_load (q := 36) rfl rfl rfl rfl rfl ?_
    refine ax_getf (q := 39) (v := am_R 125) rfl rfl (rfl) ?_
    refine ax_load (q := 40) rfl rfl rfl rfl rfl ?_
    refine bx_iald (q := 41) (k := k) (z := ((M.getD k 0 : Nat) : Int)) rfl rfl (rfl) (by omega) (by have := hM.2.1; omega) (hM2.2.2.1 _ (by omega)) ?_
    refine ax_load (q := 42) rfl rfl rfl rfl rfl ?_
    refine ax_getf (q := 45) (v := am_R 126) rfl rfl (rfl) ?_
    refine ax_load (q := 46) rfl rfl rfl rfl rfl ?_
    refine bx_iald (q := 47) (k := k) (z := ((l.getD k 0 : Nat) : Int)) rfl rfl (rfl) (by omega) (by have := hM.2.1; omega) (by rw [hf.1 126 (by decide)]; exact hl _ (by omega)) ?_
    refine bx_iast (q := 48) (k := M.getD k 0) rfl rfl (rfl) (by omega) (by omega) ?_
    refine ax_iinc (q := 51) (z' := ((k + 1 : Nat) : Int)) (L' := [some (am_R 123), some (am_I ((k + 1 : Nat) : Int))]) rfl rfl rfl rfl (am_we (by omega) (by omega) (by omega)) rfl ?_
    refine ax_goto (x := 23) rfl ?_
    refine ih (k + 1) (by omega) _ (fr_sI hf (List.mem_singleton.mpr rfl)) ?_
    rw [sI_at, hv]
    rfl

theorem xl_keep1 {d : Nat} {σ : am_S} {M l : List Nat} (hM : RS5_ M σ) (hl : ∀ k, k < M.length → σ.1 126 k = (l.getD k 0 : Int)) (hdis : ∀ i j, i < M.length → j < M.length → M.getD i 0 = M.getD j 0 → i = j) {Q : Option am_V → am_S → Prop} (hQ : ∀ σ', fr_ [124] σ σ' → KR_ M l (σ'.1 124) → Q none σ') : ∀ (m k : Nat), k + m = 6 → ∀ σ', fr_ [124] σ σ' → (∀ j, j < k → σ'.1 124 j = -1) → aW d 4 k_X5_keepRings Q 2 [some (am_R 123), some (am_I ((k : Nat) : Int))] [] σ' := by
  intro m
  induction m with
  | zero =>
    intro k hk σ' hf hv
    obtain rfl : k = 6 := by omega
    refine ax_load (q := 3) rfl rfl rfl rfl rfl ?_
    refine ax_const (q := 5) (v := am_I 6) rfl rfl rfl ?_
    refine ax_icmp_ge (q := 8) (x := 21) rfl rfl (fun h5 => ?_) (fun h => absurd h (by omega))
    refine ax_const (q := 22) (v := am_I 0) rfl rfl rfl ?_
    refine ax_store (q := 23) (L' := [some (am_R 123), some (am_I 0)]) rfl rfl rfl rfl rfl rfl ?_
    exact xl_keep2 hM hl hdis hQ (y := σ'.1 124) (fun p hp => hv p hp) M.length 0 (by omega) σ' hf rfl
  | succ m ih =>
    intro k hk σ' hf hv
    refine ax_load (q := 3) rfl rfl rfl rfl rfl ?_
    refine ax_const (q := 5) (v := am_I 6) rfl rfl rfl ?_
    refine ax_icmp_ge (q := 8) (x := 21) rfl rfl (fun h => absurd h (by omega)) (fun h5 => ?_)
    refine ax_load (q := 9) rfl rfl rfl rfl rfl ?_
    refine ax_getf (q := 12) (v := am_R 124) rfl rfl (rfl) ?_
    refine ax_load (q := 13) rfl rfl rfl rfl rfl ?_
    refine ax_const (q := 14) (v := am_I (-1)) rfl rfl rfl ?_
    refine bx_iast (q := 15) (k := k) rfl rfl (rfl) (by omega) (by omega) ?_
    refine ax_iinc (q := 18) (z' := ((k + 1 : Nat) : Int)) (L' := [some (am_R 123), some (am_I ((k + 1 : Nat) : Int))]) rfl rfl rfl rfl (am_we (by omega) (by omega) (by omega)) rfl ?_
    refine ax_goto (x := 2) rfl ?_
    refine ih (k + 1) (by omega) _ (fr_sI hf (List.mem_singleton.mpr rfl)) (fun j hj => ?_)
    rw [sI_at]
    by_cases q : j = k
    · rw [q, am_up_same]
    · rw [am_up_ne q]; exact hv j (by omega)

theorem x_keepRings {d : Nat} (hd : 1 ≤ d) {σ : am_S} {M l : List Nat} (hM : RS5_ M σ) (hl : ∀ k, k < M.length → σ.1 126 k = (l.getD k 0 : Int)) (hdis : ∀ i j, i < M.length → j < M.length → M.getD i 0 = M.getD j 0 → i = j) {Q : Option am_V → am_S → Prop} (hQ : ∀ σ', fr_ [124] σ σ' → KR_ M l (σ'.1 124) → Q none σ') : am_Ev d 77 [am_R 123] σ Q := by
  obtain ⟨d, rfl⟩ : ∃ e, d = e + 1 := ⟨d - 1, by omega⟩
  refine ev_in (m := 77) (c := k_X5_keepRings) (L := [some (am_R 123), none]) rfl rfl rfl rfl rfl rfl ?_
  refine ax_const (q := 1) (v := am_I 0) rfl rfl rfl ?_
  refine ax_store (q := 2) (L' := [some (am_R 123), some (am_I 0)]) rfl rfl rfl rfl rfl rfl ?_
  exact xl_keep1 hM hl hdis hQ 6 0 (by omega) σ (fr_rf _ _) (fun j hj => absurd hj (by omega))

def bi2_ {α : Type} (f : List Nat → Int) (M : List Nat) (i : Nat) : Int × List Nat := be_ f ((List.range i).map (tt_ M.length M (fa_ M.length))) (-1, [])
theorem bi2_s {f : List Nat → Int} {M : List Nat} {i : Nat} : bi2_ (α := Unit) f M (i + 1) = if (bi2_ (α := Unit) f M i).1 < f (tt_ M.length M (fa_ M.length) i) then (f (tt_ M.length M (fa_ M.length) i), tt_ M.length M (fa_ M.length) i) else bi2_ (α := Unit) f M i := by
  unfold bi2_
  rw [List.range_succ, List.map_append, be_app]
  rfl
theorem PL_.f5r {t : Nat} {T : sp_T} {v : sp_V} {σ σ' : am_S} (h : PL_ 68 t T v σ) (hf : fr_ [123, 124, 125, 126] σ σ') : PL_ 68 t T v σ' := h.fr hf (by have := h.ht; intro a ha; simp at ha; omega)
theorem rm_len (T : sp_T) (v : sp_V) (hV : TV_ T) : bi_ (nP_ T) (sh_ v) < 2 ^ nP_ T ∧ bi_ (nP_ T) (sh_ v) < 64 ∧ rm_ T v = mb_ (bi_ (nP_ T) (sh_ v)) 6 := by
  have h6 := hV.nP
  have h1 := bi_lt (sh_ v) (nP_ T)
  exact ⟨h1, Nat.lt_of_lt_of_le h1 (show 2 ^ nP_ T ≤ 2 ^ 6 from Nat.pow_le_pow_right (by decide) h6.2), mb_eq h6.2 h1⟩

theorem xl_rings {d : Nat} (hd : 5 ≤ d) {σ : am_S} {t : Nat} {T : sp_T} {v : sp_V} (hL : PL_ 68 t T v σ) (hV : TV_ T) {b : Int} (hW : VV_ T b v) (hb9 : b < 900000) (hM : RS5_ (rm_ T v) σ) {Q : Option am_V → am_S → Prop} (hQ : ∀ σ', fr_ [124, 126] σ σ' → KR_ (rm_ T v) (ri_ T v).2 (σ'.1 124) → Q (some (am_I (ri_ T v).1)) σ') : ∀ (m i : Nat) (x3 : Option am_V), i + m = fa_ (rm_ T v).length → ∀ σ', fr_ [124, 126] σ σ' → ((bi2_ (α := Unit) (rg_ T v (rm_ T v)) (rm_ T v) i).1 = -1 ∨ KR_ (rm_ T v) (bi2_ (α := Unit) (rg_ T v (rm_ T v)) (rm_ T v) i).2 (σ'.1 124)) → aW d 0 k_X5_bestRings Q 15 [some (am_R 123), some (am_I ((bi2_ (α := Unit) (rg_ T v (rm_ T v)) (rm_ T v) i).1)), some (am_I ((i : Nat) : Int)), x3] [] σ' := by
  have hn6 := hV.nP
  have hM6 := hM.2.1
  have hfb := fa_bd (rm_ T v).length hM6
  obtain ⟨r1, r2, r3⟩ := rm_len T v hV
  have hnd : (rm_ T v).Nodup := by rw [r3]; exact mb_nodup r2
  have hrm : rm_ T v = mb_ (bi_ (nP_ T) (sh_ v)) (nP_ T) := rfl
  obtain ⟨ll, k1, k2, k3, k4⟩ := rs_ok hn6.2 r1
  rw [← hrm] at k1 k2 k3 k4
  have hMp : ∀ k, k < (rm_ T v).length → (rm_ T v).getD k 0 < nP_ T := fun k hk => ((k3 (rm_ T v) (by simp)).2 k hk).2
  have hrow : ∀ i, i < fa_ (rm_ T v).length → ∀ k, k < (rm_ T v).length → (tt_ (rm_ T v).length (rm_ T v) (fa_ (rm_ T v).length) i).getD k 0 < nP_ T := by
    intro i hi k hk
    have hmem : tt_ (rm_ T v).length (rm_ T v) (fa_ (rm_ T v).length) i ∈ rm_ T v :: ll := by rw [← k1]; exact List.mem_map.mpr ⟨i, List.mem_range.mpr hi, rfl⟩
    have := k3 _ hmem
    exact (this.2 k (by omega)).2
  have hfin : bi2_ (α := Unit) (rg_ T v (rm_ T v)) (rm_ T v) (fa_ (rm_ T v).length) = ri_ T v := rfl
  have hge : 0 ≤ (ri_ T v).1 := by
    have hb := (be_up (rg_ T v (rm_ T v)) (rs_ (rm_ T v)) (-1, [])).2 (rm_ T v) (by rw [k1]; simp)
    have hs : 0 ≤ rg_ T v (rm_ T v) (rm_ T v) := by
      have hsu := su_bd (f := ow_ T v (rm_ T v) (rm_ T v)) (b := 9) (by omega) (rm_ T v).length (fun j hj => ho_bd hV hW (hMp j hj))
      unfold rg_
      rw [if_neg (by rw [(an_f _).mpr (fun u hu => decide_eq_false (by omega))]; decide)]
      exact hsu.1
    exact Int.le_trans hs hb
  intro m
  induction m with
  | zero =>
    intro i x3 hi σ' hf hb
    obtain hi2 : i = fa_ (rm_ T v).length := by omega
    subst hi2
    have hM2 := hM.fr hf (by decide) (by decide)
    refine ax_load (q := 16) rfl rfl rfl rfl rfl ?_
    refine ax_load (q := 17) rfl rfl rfl rfl rfl ?_
    refine ax_callv (q := 20) rfl rfl rfl rfl rfl rfl ?_
    refine x_count (by omega) hM2.1 hM6 ?_
    refine ax_icmp_ge (q := 23) (x := 50) rfl rfl (fun h20 => ?_) (fun h => absurd h (by omega))
    refine ax_load (q := 51) rfl rfl rfl rfl rfl ?_
    refine ax_ret (r := some (am_I ((bi2_ (α := Unit) (rg_ T v (rm_ T v)) (rm_ T v) (fa_ (rm_ T v).length)).1))) rfl rfl ?_
    rw [hfin] at hb ⊢
    exact hQ _ hf (by rcases hb with w | w; omega; exact w)
  | succ m ih =>
    intro i x3 hi σ' hf hb
    have hM2 := hM.fr hf (by decide) (by decide)
    have hL2 : PL_ 68 t T v σ' := hL.f5r (fr_sub hf (by simp))
    have hst := bi2_s (f := (rg_ T v (rm_ T v))) (M := rm_ T v) (i := i)
    refine ax_load (q := 16) rfl rfl rfl rfl rfl ?_
    refine ax_load (q := 17) rfl rfl rfl rfl rfl ?_
    refine ax_callv (q := 20) rfl rfl rfl rfl rfl rfl ?_
    refine x_count (by omega) hM2.1 hM6 ?_
    refine ax_icmp_ge (q := 23) (x := 50) rfl rfl (fun h => absurd h (by omega)) (fun h20 => ?_)
    refine ax_load (q := 24) rfl rfl rfl rfl rfl ?_
    refine ax_load (q := 25) rfl rfl rfl rfl rfl ?_
    refine ax_callv (q := 28) rfl rfl rfl rfl rfl rfl ?_
    refine x_turnTo (by omega) hM2 hnd (num := i) (by omega) (fun σ2 hf2 hr2 => ?_)
    have hf02 := fr_tr hf hf2 (by simp)
    have hM3 := hM2.fr hf2 (by decide) (by decide)
    have hL3 := hL2.f5r (fr_sub hf2 (by simp))
    refine ax_load (q := 29) rfl rfl rfl rfl rfl ?_
    refine ax_callv (q := 32) rfl rfl rfl rfl rfl rfl ?_
    refine x_worthTogether (by omega) hL3 hV hW hM3 hr2 hMp (hrow i (by omega)) ?_
    refine ax_store (q := 33) (L' := [some (am_R 123), some (am_I ((bi2_ (α := Unit) (rg_ T v (rm_ T v)) (rm_ T v) i).1)), some (am_I ((i : Nat) : Int)), some (am_I (rg_ T v (rm_ T v) (tt_ (rm_ T v).length (rm_ T v) (fa_ (rm_ T v).length) i)))]) rfl rfl rfl rfl rfl rfl ?_
    refine ax_load (q := 34) rfl rfl rfl rfl rfl ?_
    refine ax_load (q := 35) rfl rfl rfl rfl rfl ?_
    refine ax_icmp_le (q := 38) (x := 44) rfl rfl (fun h35 => ?_) (fun h35 => ?_)
    · refine ax_iinc (q := 47) (z' := ((i + 1 : Nat) : Int)) (L' := [some (am_R 123), some (am_I ((bi2_ (α := Unit) (rg_ T v (rm_ T v)) (rm_ T v) i).1)), some (am_I ((i + 1 : Nat) : Int)), some (am_I (rg_ T v (rm_ T v) (tt_ (rm_ T v).length (rm_ T v) (fa_ (rm_ T v).length) i)))]) rfl rfl rfl rfl (am_we (by omega) (by omega) (by omega)) rfl ?_
      refine ax_goto (x := 15) rfl ?_
      rw [if_neg (by omega)] at hst
      have g := ih (i + 1) (some (am_I (rg_ T v (rm_ T v) (tt_ (rm_ T v).length (rm_ T v) (fa_ (rm_ T v).length) i)))) (by omega) σ2 hf02
      rw [hst] at g
      exact g (by rcases hb with w | w; exact Or.inl w; exact Or.inr (by rw [hf2.1 124 (by decide)]; exact w))
    · refine ax_load (q := 39) rfl rfl rfl rfl rfl ?_
      refine ax_store (q := 40) (L' := [some (am_R 123), some (am_I (rg_ T v (rm_ T v) (tt_ (rm_ T v).length (rm_ T v) (fa_ (rm_ T v).length) i))), some (am_I ((i : Nat) : Int)), some (am_I (rg_ T v (rm_ T v) (tt_ (rm_ T v).length (rm_ T v) (fa_ (rm_ T v).length) i)))]) rfl rfl rfl rfl rfl rfl ?_
      refine ax_load (q := 41) rfl rfl rfl rfl rfl ?_
      refine ax_callv (q := 44) rfl rfl rfl rfl rfl rfl ?_
      refine x_keepRings (by omega) hM3 hr2 k4 (fun σ3 hf3 hk3 => ?_)
      refine ax_iinc (q := 47) (z' := ((i + 1 : Nat) : Int)) (L' := [some (am_R 123), some (am_I (rg_ T v (rm_ T v) (tt_ (rm_ T v).length (rm_ T v) (fa_ (rm_ T v).length) i))), some (am_I ((i + 1 : Nat) : Int)), some (am_I (rg_ T v (rm_ T v) (tt_ (rm_ T v).length (rm_ T v) (fa_ (rm_ T v).length) i)))]) rfl rfl rfl rfl (am_we (by omega) (by omega) (by omega)) rfl ?_
      refine ax_goto (x := 15) rfl ?_
      rw [if_pos (by omega)] at hst
      have g := ih (i + 1) (some (am_I (rg_ T v (rm_ T v) (tt_ (rm_ T v).length (rm_ T v) (fa_ (rm_ T v).length) i)))) (by omega) σ3 (fr_tr hf02 hf3 (by simp))
      rw [hst] at g
      exact g (Or.inr hk3)

theorem x_bestRings {d : Nat} (hd : 6 ≤ d) {σ : am_S} {t : Nat} {T : sp_T} {v : sp_V} (hL : PL_ 68 t T v σ) (hV : TV_ T) {b : Int} (hW : VV_ T b v) (hb9 : b < 900000) {Q : Option am_V → am_S → Prop} (hQ : ∀ σ', fr_ [123, 124, 125, 126] σ σ' → KR_ (rm_ T v) (ri_ T v).2 (σ'.1 124) → Q (some (am_I (ri_ T v).1)) σ') : am_Ev d 75 [am_R 123] σ Q := by
  obtain ⟨d, rfl⟩ : ∃ e, d = e + 1 := ⟨d - 1, by omega⟩
  have hn6 := hV.nP
  refine ev_in (m := 75) (c := k_X5_bestRings) (L := [some (am_R 123), none, none, none]) rfl rfl rfl rfl rfl rfl ?_
  refine ax_load (q := 1) rfl rfl rfl rfl rfl ?_
  refine ax_load (q := 2) rfl rfl rfl rfl rfl ?_
  refine ax_getf (q := 5) (v := am_R 68) rfl rfl (rfl) ?_
  refine ax_callv (q := 8) rfl rfl rfl rfl rfl rfl ?_
  refine x_unopened (by omega) hL hV ?_
  refine ax_callv (q := 11) rfl rfl rfl rfl rfl rfl ?_
  obtain ⟨r1, r2, r3⟩ := rm_len T v hV
  refine x_begin5 (by omega) r2 (fun σ1 hf1 hM1 => ?_)
  rw [← r3] at hM1
  have hL1 : PL_ 68 t T v σ1 := hL.f5r (fr_sub hf1 (by simp))
  refine ax_const (q := 12) (v := am_I (-1)) rfl rfl rfl ?_
  refine ax_store (q := 13) (L' := [some (am_R 123), some (am_I (-1)), none, none]) rfl rfl rfl rfl rfl rfl ?_
  refine ax_const (q := 14) (v := am_I 0) rfl rfl rfl ?_
  refine ax_store (q := 15) (L' := [some (am_R 123), some (am_I (-1)), some (am_I 0), none]) rfl rfl rfl rfl rfl rfl ?_
  exact xl_rings (by omega) hL1 hV hW hb9 hM1 (fun σ' hf hk => hQ σ' (fr_tr (fr_sub hf1 (by simp)) hf (by simp)) hk) (fa_ (rm_ T v).length) 0 _ (by omega) σ1 (fr_rf _ _) (Or.inl rfl)

theorem x_rings {d : Nat} (hd : 7 ≤ d) {σ : am_S} {t : Nat} {T : sp_T} {v : sp_V} (hL : PL_ 68 t T v σ) (hV : TV_ T) {b : Int} (hW : VV_ T b v) (hb9 : b < 900000) {Q : Option am_V → am_S → Prop} (hQ : ∀ σ', l0_ [123, 124, 125, 126, 134] σ σ' → σ'.1 0 14 = (nP_ T : Int) → (∀ k, k < (rm_ T v).length → σ'.1 134 ((rm_ T v).getD k 0) = ((ri_ T v).2.getD k 0 : Int)) → (∀ p, p < nP_ T → (∀ k, k < (rm_ T v).length → (rm_ T v).getD k 0 ≠ p) → σ'.1 134 p = -1) → Q (some (am_I (ri_ T v).1)) σ') : am_Ev d 125 [am_R 0] σ Q := by
  obtain ⟨d, rfl⟩ : ∃ e, d = e + 1 := ⟨d - 1, by omega⟩
  have h6 := hV.nP
  have hO8 := hV.nO
  have hS4 := hV.nS
  have hR3 := hV.nR
  refine ev_in (m := 125) (c := k_X8_rings) (L := [some (am_R 0), none]) rfl rfl rfl rfl rfl rfl ?_
  refine ax_load (q := 1) rfl rfl rfl rfl rfl ?_
  refine ax_getf (q := 4) (v := am_R 123) rfl rfl (rfl) ?_
  refine ax_callv (q := 7) rfl rfl rfl rfl rfl rfl ?_
  refine x_bestRings (by omega) hL hV hW hb9 (fun σ1 hf1 hk1 => ?_)
  have hL1 : PL_ 68 t T v σ1 := hL.f5r hf1
  refine ax_store (q := 8) (L' := [some (am_R 0), some (am_I ((ri_ T v).1))]) rfl rfl rfl rfl rfl rfl ?_
  refine ax_load (q := 9) rfl rfl rfl rfl rfl ?_
  refine ax_load (q := 10) rfl rfl rfl rfl rfl ?_
  refine ax_getf (q := 13) (v := am_R 123) rfl rfl (rfl) ?_
  refine ax_getf (q := 16) (v := am_R 124) rfl rfl (rfl) ?_
  refine ax_load (q := 17) rfl rfl rfl rfl rfl ?_
  refine ax_getf (q := 20) (v := am_R 68) rfl rfl (rfl) ?_
  refine ax_getf (q := 23) (v := am_R t) rfl rfl (am_fgR rfl hL1.to) ?_
  refine ax_getf (q := 26) (v := am_R (t + 1)) rfl rfl (xg7_0 hL1.xt.ht) ?_
  refine ax_const (q := 27) (v := am_I 0) rfl rfl rfl ?_
  refine bx_iald (q := 28) (k := 0) (z := (((nP_ T) : Nat) : Int)) rfl rfl (kd_1 hL1.xt.ht) (by omega) (by omega) (hL1.xt.c0.trans hV.nP.1) ?_
  refine ax_callv (q := 31) rfl rfl rfl rfl rfl rfl ?_
  refine x_lay124 (by omega) (by omega) (fun σ2 hf2 h14 h134 => ?_)
  refine ax_load (q := 32) rfl rfl rfl rfl rfl ?_
  refine ax_ret (r := some (am_I ((ri_ T v).1))) rfl rfl ?_
  obtain ⟨r1, r2, r3⟩ := rm_len T v hV
  obtain ⟨ll, k1, k2, k3, k4⟩ := rs_ok h6.2 r1
  have hMp : ∀ k, k < (rm_ T v).length → (rm_ T v).getD k 0 < nP_ T := fun k hk => ((k3 (rm_ T v) (by show rm_ T v ∈ mb_ _ _ :: ll; exact List.mem_cons_self)).2 k hk).2
  exact hQ _ (l0_tr (l0_fr hf1 (by simp)) hf2 (by simp) (by simp)) h14 (fun k hk => by rw [h134 _ (hMp k hk)]; exact hk1.1 k hk) (fun p hp hno => by rw [h134 _ hp]; exact hk1.2 p (by omega) hno)

