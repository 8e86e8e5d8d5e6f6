theorem wc_inj : ∀ i, i < 21 → ∀ j, j < 21 → wc_ i = wc_ j → i = j := by decide +kernel
theorem kf_100 {w : Int} : ∀ m i, i + m ≤ 21 → (kf_ w m i = 100 ↔ ∀ j, i ≤ j → j < i + m → (wc_ j : Int) ≠ w)
  | 0, i, _ => ⟨fun _ j h1 h2 => by omega, fun _ => rfl⟩
  | m + 1, i, h => by
    have ih := kf_100 (w := w) m (i + 1) (by omega)
    show (if (wc_ i : Int) = w then (i : Int) else kf_ w m (i + 1)) = 100 ↔ _
    by_cases q : (wc_ i : Int) = w
    · rw [if_pos q]
      exact ⟨fun e => by omega, fun e => absurd q (e i (by omega) (by omega))⟩
    · rw [if_neg q, ih]
      refine ⟨fun e j h1 h2 => ?_, fun e j h1 h2 => e j (by omega) (by omega)⟩
      by_cases z : j = i
      · rw [z]; exact q
      · exact e j (by omega) (by omega)
theorem kf_own (w : Int) : kf_ w 21 0 = 100 ↔ own_ w = false := by
  rw [kf_100 21 0 (by decide)]
  unfold own_
  rw [decide_eq_false_iff_not]
  constructor
  · intro H
    have f0 : (495723310188 : Int) ≠ w := H 0 (by decide) (by decide)
    have f1 : (478660552050 : Int) ≠ w := H 1 (by decide) (by decide)
    have f2 : (1634954099 : Int) ≠ w := H 2 (by decide) (by decide)
    have f3 : (1936023916 : Int) ≠ w := H 3 (by decide) (by decide)
    have f4 : (131277443786868 : Int) ≠ w := H 4 (by decide) (by decide)
    have f5 : (512970880104 : Int) ≠ w := H 5 (by decide) (by decide)
    have f6 : (123563833652072 : Int) ≠ w := H 6 (by decide) (by decide)
    have f7 : (1868850291 : Int) ≠ w := H 7 (by decide) (by decide)
    have f8 : (123581014175598 : Int) ≠ w := H 8 (by decide) (by decide)
    have f9 : (28518 : Int) ≠ w := H 9 (by decide) (by decide)
    have f10 : (6383461 : Int) ≠ w := H 10 (by decide) (by decide)
    have f11 : (129116991874419 : Int) ≠ w := H 11 (by decide) (by decide)
    have f12 : (499917087592 : Int) ≠ w := H 12 (by decide) (by decide)
    have f13 : (1869636974 : Int) ≠ w := H 13 (by decide) (by decide)
    have f14 : (1685217655 : Int) ≠ w := H 14 (by decide) (by decide)
    have f15 : (28530 : Int) ≠ w := H 15 (by decide) (by decide)
    have f16 : (6385252 : Int) ≠ w := H 16 (by decide) (by decide)
    have f17 : (7237492 : Int) ≠ w := H 17 (by decide) (by decide)
    have f18 : (465558725996 : Int) ≠ w := H 18 (by decide) (by decide)
    have f19 : (2036687218 : Int) ≠ w := H 19 (by decide) (by decide)
    have f20 : (512852845416 : Int) ≠ w := H 20 (by decide) (by decide)
    omega
  · intro H j _ hj
    have hj2 : j < 21 := by omega
    rcases (by omega : j = 0 ∨ j = 1 ∨ j = 2 ∨ j = 3 ∨ j = 4 ∨ j = 5 ∨ j = 6 ∨ j = 7 ∨ j = 8 ∨ j = 9 ∨ j = 10 ∨ j = 11 ∨ j = 12 ∨ j = 13 ∨ j = 14 ∨ j = 15 ∨ j = 16 ∨ j = 17 ∨ j = 18 ∨ j = 19 ∨ j = 20) with rfl | rfl | rfl | rfl | rfl | rfl | rfl | rfl | rfl | rfl | rfl | rfl | rfl | rfl | rfl | rfl | rfl | rfl | rfl | rfl | rfl
    · show (495723310188 : Int) ≠ w; omega
    · show (478660552050 : Int) ≠ w; omega
    · show (1634954099 : Int) ≠ w; omega
    · show (1936023916 : Int) ≠ w; omega
    · show (131277443786868 : Int) ≠ w; omega
    · show (512970880104 : Int) ≠ w; omega
    · show (123563833652072 : Int) ≠ w; omega
    · show (1868850291 : Int) ≠ w; omega
    · show (123581014175598 : Int) ≠ w; omega
    · show (28518 : Int) ≠ w; omega
    · show (6383461 : Int) ≠ w; omega
    · show (129116991874419 : Int) ≠ w; omega
    · show (499917087592 : Int) ≠ w; omega
    · show (1869636974 : Int) ≠ w; omega
    · show (1685217655 : Int) ≠ w; omega
    · show (28530 : Int) ≠ w; omega
    · show (6385252 : Int) ≠ w; omega
    · show (7237492 : Int) ≠ w; omega
    · show (465558725996 : Int) ≠ w; omega
    · show (2036687218 : Int) ≠ w; omega
    · show (512852845416 : Int) ≠ w; omega
theorem kf_i {w : Int} {i : Nat} (hi : i < 21) : ∀ m k, k + m ≤ 21 → k ≤ i → i < k + m → (kf_ w m k = (i : Int) ↔ (wc_ i : Int) = w)
  | 0, k, _, h1, h2 => by omega
  | m + 1, k, h, h1, h2 => by
    show (if (wc_ k : Int) = w then (k : Int) else kf_ w m (k + 1)) = (i : Int) ↔ _
    by_cases q : (wc_ k : Int) = w
    · rw [if_pos q]
      refine ⟨fun e => by rw [← show k = i by omega]; exact q, fun e => ?_⟩
      rw [wc_inj k (by omega) i hi (by omega)]
    · rw [if_neg q]
      by_cases z : k = i
      · subst z
        refine ⟨fun e => ?_, fun e => absurd e q⟩
        exfalso
        have : ∀ m2 k2, k < k2 → k2 + m2 ≤ 21 → kf_ w m2 k2 ≠ (k : Int) := by
          intro m2
          induction m2 with
          | zero => intro k2 _ _; show (100 : Int) ≠ (k : Int); omega
          | succ m2 ih =>
            intro k2 h3 h4
            show (if (wc_ k2 : Int) = w then (k2 : Int) else kf_ w m2 (k2 + 1)) ≠ (k : Int)
            split
            · omega
            · exact ih (k2 + 1) (by omega) (by omega)
        exact this m (k + 1) (by omega) (by omega) e
      · exact kf_i hi m (k + 1) (by omega) (by omega) (by omega)
/-- a name stands here -/
theorem kx_n {tp : Nat → Int} {n p : Nat} : kx_ tp n p = 100 ↔ tks_ tp n p = 1 ∧ own_ (tkw_ tp n p) = false := by
  have h1 := tks_bd tp n p
  rw [← kf_own]
  unfold kx_
  split
  · omega
  · split
    · omega
    · split
      · omega
      · split <;> omega
/-- an own word stands here -/
theorem kx_w {tp : Nat → Int} {n p i : Nat} (hi : i < 21) : kx_ tp n p = (i : Int) ↔ tks_ tp n p = 1 ∧ tkw_ tp n p = (wc_ i : Int) := by
  have h1 := tks_bd tp n p
  have h2 := kf_i (w := tkw_ tp n p) hi 21 0 (by decide) (by omega) (by omega)
  rw [eq_comm (a := tkw_ tp n p), ← h2]
  unfold kx_
  split
  · omega
  · split
    · omega
    · split
      · omega
      · split <;> omega

theorem x_known0 {d : Nat} (hd : 3 ≤ d) {σ : am_S} {tp : Nat → Int} {n t p : Nat} (hC : RC_ tp n t p σ) {g : Nat → Int} {b m : Nat} (hN : NM_ (t + 3) (t + 1) 0 g b m σ) {Q : Option am_V → am_S → Prop} (hK : ¬ (tks_ tp n p = 1 ∧ own_ (tkw_ tp n p) = false) → ∀ σ', gx_ [] [] [0, 1] σ σ' → σ'.2.1 = σ.2.1 → FX_ tp n (2, p) σ' → Q (some (am_I (-1))) σ') (hU : tks_ tp n p = 1 ∧ own_ (tkw_ tp n p) = false → fi_ g (tkw_ tp n p) b m < 0 → ∀ σ', gx_ [] [] [0, 1] σ σ' → σ'.2.1 = σ.2.1 → FX_ tp n (5, p) σ' → Q (some (am_I (-1))) σ') (hY : tks_ tp n p = 1 ∧ own_ (tkw_ tp n p) = false → 0 ≤ fi_ g (tkw_ tp n p) b m → Q (some (am_I (fi_ g (tkw_ tp n p) b m))) σ) : am_Ev d 60 [am_R 66, am_I 0] σ Q := by
  obtain ⟨d, rfl⟩ : ∃ e, d = e + 1 := ⟨d - 1, by omega⟩
  refine ev_in (m := 60) (c := k_X4_known) (L := [some (am_R 66), some (am_I 0), none]) rfl rfl rfl rfl rfl rfl ?_
  refine ax_load (q := 1) rfl rfl rfl rfl rfl ?_
  refine ax_getf (q := 4) (v := am_I (kx_ tp n p)) rfl rfl (am_fg rfl hC.kx.2.1) ?_
  refine ax_const (q := 6) (v := am_I 100) rfl rfl rfl ?_
  refine ax_icmp_eq (q := 9) (x := 16) rfl rfl (fun h6 => ?_) (fun h6 => ?_)
  · refine ax_load (q := 17) rfl rfl rfl rfl rfl ?_
    refine ax_load (q := 18) rfl rfl rfl rfl rfl ?_
    refine ax_callv (q := 21) rfl rfl rfl rfl rfl rfl ?_
    have hkn := kx_n.mp (show kx_ tp n p = 100 by omega)
    have hnm := hC.kx.2.2.1 hkn.1
    have hfb := fi_bd g (tkw_ tp n p) b m
    refine x_find0 (by omega) hC hN hnm.1 hnm.2 ?_
    refine ax_store (q := 22) (L' := [some (am_R 66), some (am_I 0), some (am_I (fi_ g (tkw_ tp n p) b m))]) rfl rfl rfl rfl rfl rfl ?_
    refine ax_load (q := 23) rfl rfl rfl rfl rfl ?_
    refine ax_const (q := 24) (v := am_I (-1)) rfl rfl rfl ?_
    refine ax_icmp_ne (q := 27) (x := 33) rfl rfl (fun h24 => ?_) (fun h24 => ?_)
    · refine ax_load (q := 34) rfl rfl rfl rfl rfl ?_
      refine ax_ret (r := some (am_I (fi_ g (tkw_ tp n p) b m))) rfl rfl ?_
      exact hY hkn (by omega)
    · refine ax_load (q := 28) rfl rfl rfl rfl rfl ?_
      refine ax_const (q := 29) (v := am_I 5) rfl rfl rfl ?_
      refine ax_callv (q := 32) rfl rfl rfl rfl rfl rfl ?_
      refine x_refuse (by omega) hC.kx.1 (fun σ2 hf2 g0 g1 gJ => ?_)
      refine ax_pop (q := 33) rfl rfl rfl ?_
      refine ax_load (q := 34) rfl rfl rfl rfl rfl ?_
      refine ax_ret (r := some (am_I (fi_ g (tkw_ tp n p) b m))) rfl rfl ?_
      rw [show fi_ g (tkw_ tp n p) b m = -1 by omega]
      exact hU hkn (by omega) _ hf2 gJ ⟨by rw [g0]; exact (if_neg (fun e => by have := (kx_3 (tp := tp) (n := n) (p := p)).mpr e; omega)).symm, g1⟩
  · refine ax_load (q := 10) rfl rfl rfl rfl rfl ?_
    refine ax_callv (q := 13) rfl rfl rfl rfl rfl rfl ?_
    refine x_misplaced (by omega) hC (fun σ1 hf1 gJ g0 => ?_)
    refine ax_pop (q := 14) rfl rfl rfl ?_
    refine ax_const (q := 15) (v := am_I (-1)) rfl rfl rfl ?_
    refine ax_ret (r := some (am_I (-1))) rfl rfl ?_
    exact hK (fun e => by have := kx_n.mpr e; omega) _ hf1 gJ g0

theorem x_known1 {d : Nat} (hd : 3 ≤ d) {σ : am_S} {tp : Nat → Int} {n t p : Nat} (hC : RC_ tp n t p σ) {g : Nat → Int} {b m : Nat} (hN : NM_ (t + 4) (t + 1) 1 g b m σ) {Q : Option am_V → am_S → Prop} (hK : ¬ (tks_ tp n p = 1 ∧ own_ (tkw_ tp n p) = false) → ∀ σ', gx_ [] [] [0, 1] σ σ' → σ'.2.1 = σ.2.1 → FX_ tp n (2, p) σ' → Q (some (am_I (-1))) σ') (hU : tks_ tp n p = 1 ∧ own_ (tkw_ tp n p) = false → fi_ g (tkw_ tp n p) b m < 0 → ∀ σ', gx_ [] [] [0, 1] σ σ' → σ'.2.1 = σ.2.1 → FX_ tp n (5, p) σ' → Q (some (am_I (-1))) σ') (hY : tks_ tp n p = 1 ∧ own_ (tkw_ tp n p) = false → 0 ≤ fi_ g (tkw_ tp n p) b m → Q (some (am_I (fi_ g (tkw_ tp n p) b m))) σ) : am_Ev d 60 [am_R 66, am_I 1] σ Q := by
  obtain ⟨d, rfl⟩ : ∃ e, d = e + 1 := ⟨d - 1, by omega⟩
  refine ev_in (m := 60) (c := k_X4_known) (L := [some (am_R 66), some (am_I 1), none]) rfl rfl rfl rfl rfl rfl ?_
  refine ax_load (q := 1) rfl rfl rfl rfl rfl ?_
  refine ax_getf (q := 4) (v := am_I (kx_ tp n p)) rfl rfl (am_fg rfl hC.kx.2.1) ?_
  refine ax_const (q := 6) (v := am_I 100) rfl rfl rfl ?_
  refine ax_icmp_eq (q := 9) (x := 16) rfl rfl (fun h6 => ?_) (fun h6 => ?_)
  · refine ax_load (q := 17) rfl rfl rfl rfl rfl ?_
    refine ax_load (q := 18) rfl rfl rfl rfl rfl ?_
    refine ax_callv (q := 21) rfl rfl rfl rfl rfl rfl ?_
    have hkn := kx_n.mp (show kx_ tp n p = 100 by omega)
    have hnm := hC.kx.2.2.1 hkn.1
    have hfb := fi_bd g (tkw_ tp n p) b m
    refine x_find1 (by omega) hC hN hnm.1 hnm.2 ?_
    refine ax_store (q := 22) (L' := [some (am_R 66), some (am_I 1), some (am_I (fi_ g (tkw_ tp n p) b m))]) rfl rfl rfl rfl rfl rfl ?_
    refine ax_load (q := 23) rfl rfl rfl rfl rfl ?_
    refine ax_const (q := 24) (v := am_I (-1)) rfl rfl rfl ?_
    refine ax_icmp_ne (q := 27) (x := 33) rfl rfl (fun h24 => ?_) (fun h24 => ?_)
    · refine ax_load (q := 34) rfl rfl rfl rfl rfl ?_
      refine ax_ret (r := some (am_I (fi_ g (tkw_ tp n p) b m))) rfl rfl ?_
      exact hY hkn (by omega)
    · refine ax_load (q := 28) rfl rfl rfl rfl rfl ?_
      refine ax_const (q := 29) (v := am_I 5) rfl rfl rfl ?_
      refine ax_callv (q := 32) rfl rfl rfl rfl rfl rfl ?_
      refine x_refuse (by omega) hC.kx.1 (fun σ2 hf2 g0 g1 gJ => ?_)
      refine ax_pop (q := 33) rfl rfl rfl ?_
      refine ax_load (q := 34) rfl rfl rfl rfl rfl ?_
      refine ax_ret (r := some (am_I (fi_ g (tkw_ tp n p) b m))) rfl rfl ?_
      rw [show fi_ g (tkw_ tp n p) b m = -1 by omega]
      exact hU hkn (by omega) _ hf2 gJ ⟨by rw [g0]; exact (if_neg (fun e => by have := (kx_3 (tp := tp) (n := n) (p := p)).mpr e; omega)).symm, g1⟩
  · refine ax_load (q := 10) rfl rfl rfl rfl rfl ?_
    refine ax_callv (q := 13) rfl rfl rfl rfl rfl rfl ?_
    refine x_misplaced (by omega) hC (fun σ1 hf1 gJ g0 => ?_)
    refine ax_pop (q := 14) rfl rfl rfl ?_
    refine ax_const (q := 15) (v := am_I (-1)) rfl rfl rfl ?_
    refine ax_ret (r := some (am_I (-1))) rfl rfl ?_
    exact hK (fun e => by have := kx_n.mpr e; omega) _ hf1 gJ g0

theorem x_known2 {d : Nat} (hd : 3 ≤ d) {σ : am_S} {tp : Nat → Int} {n t p : Nat} (hC : RC_ tp n t p σ) {g : Nat → Int} {b m : Nat} (hN : NM_ (t + 5) (t + 1) 2 g b m σ) {Q : Option am_V → am_S → Prop} (hK : ¬ (tks_ tp n p = 1 ∧ own_ (tkw_ tp n p) = false) → ∀ σ', gx_ [] [] [0, 1] σ σ' → σ'.2.1 = σ.2.1 → FX_ tp n (2, p) σ' → Q (some (am_I (-1))) σ') (hU : tks_ tp n p = 1 ∧ own_ (tkw_ tp n p) = false → fi_ g (tkw_ tp n p) b m < 0 → ∀ σ', gx_ [] [] [0, 1] σ σ' → σ'.2.1 = σ.2.1 → FX_ tp n (5, p) σ' → Q (some (am_I (-1))) σ') (hY : tks_ tp n p = 1 ∧ own_ (tkw_ tp n p) = false → 0 ≤ fi_ g (tkw_ tp n p) b m → Q (some (am_I (fi_ g (tkw_ tp n p) b m))) σ) : am_Ev d 60 [am_R 66, am_I 2] σ Q := by
  obtain ⟨d, rfl⟩ : ∃ e, d = e + 1 := ⟨d - 1, by omega⟩
  refine ev_in (m := 60) (c := k_X4_known) (L := [some (am_R 66), some (am_I 2), none]) rfl rfl rfl rfl rfl rfl ?_
  refine ax_load (q := 1) rfl rfl rfl rfl rfl ?_
  refine ax_getf (q := 4) (v := am_I (kx_ tp n p)) rfl rfl (am_fg rfl hC.kx.2.1) ?_
  refine ax_const (q := 6) (v := am_I 100) rfl rfl rfl ?_
  refine ax_icmp_eq (q := 9) (x := 16) rfl rfl (fun h6 => ?_) (fun h6 => ?_)
  · refine ax_load (q := 17) rfl rfl rfl rfl rfl ?_
    refine ax_load (q := 18) rfl rfl rfl rfl rfl ?_
    refine ax_callv (q := 21) rfl rfl rfl rfl rfl rfl ?_
    have hkn := kx_n.mp (show kx_ tp n p = 100 by omega)
    have hnm := hC.kx.2.2.1 hkn.1
    have hfb := fi_bd g (tkw_ tp n p) b m
    refine x_find2 (by omega) hC hN hnm.1 hnm.2 ?_
    refine ax_store (q := 22) (L' := [some (am_R 66), some (am_I 2), some (am_I (fi_ g (tkw_ tp n p) b m))]) rfl rfl rfl rfl rfl rfl ?_
    refine ax_load (q := 23) rfl rfl rfl rfl rfl ?_
    refine ax_const (q := 24) (v := am_I (-1)) rfl rfl rfl ?_
    refine ax_icmp_ne (q := 27) (x := 33) rfl rfl (fun h24 => ?_) (fun h24 => ?_)
    · refine ax_load (q := 34) rfl rfl rfl rfl rfl ?_
      refine ax_ret (r := some (am_I (fi_ g (tkw_ tp n p) b m))) rfl rfl ?_
      exact hY hkn (by omega)
    · refine ax_load (q := 28) rfl rfl rfl rfl rfl ?_
      refine ax_const (q := 29) (v := am_I 5) rfl rfl rfl ?_
      refine ax_callv (q := 32) rfl rfl rfl rfl rfl rfl ?_
      refine x_refuse (by omega) hC.kx.1 (fun σ2 hf2 g0 g1 gJ => ?_)
      refine ax_pop (q := 33) rfl rfl rfl ?_
      refine ax_load (q := 34) rfl rfl rfl rfl rfl ?_
      refine ax_ret (r := some (am_I (fi_ g (tkw_ tp n p) b m))) rfl rfl ?_
      rw [show fi_ g (tkw_ tp n p) b m = -1 by omega]
      exact hU hkn (by omega) _ hf2 gJ ⟨by rw [g0]; exact (if_neg (fun e => by have := (kx_3 (tp := tp) (n := n) (p := p)).mpr e; omega)).symm, g1⟩
  · refine ax_load (q := 10) rfl rfl rfl rfl rfl ?_
    refine ax_callv (q := 13) rfl rfl rfl rfl rfl rfl ?_
    refine x_misplaced (by omega) hC (fun σ1 hf1 gJ g0 => ?_)
    refine ax_pop (q := 14) rfl rfl rfl ?_
    refine ax_const (q := 15) (v := am_I (-1)) rfl rfl rfl ?_
    refine ax_ret (r := some (am_I (-1))) rfl rfl ?_
    exact hK (fun e => by have := kx_n.mpr e; omega) _ hf1 gJ g0

theorem x_known3 {d : Nat} (hd : 3 ≤ d) {σ : am_S} {tp : Nat → Int} {n t p : Nat} (hC : RC_ tp n t p σ) {g : Nat → Int} {b m : Nat} (hN : NM_ (t + 6) (t + 1) 3 g b m σ) {Q : Option am_V → am_S → Prop} (hK : ¬ (tks_ tp n p = 1 ∧ own_ (tkw_ tp n p) = false) → ∀ σ', gx_ [] [] [0, 1] σ σ' → σ'.2.1 = σ.2.1 → FX_ tp n (2, p) σ' → Q (some (am_I (-1))) σ') (hU : tks_ tp n p = 1 ∧ own_ (tkw_ tp n p) = false → fi_ g (tkw_ tp n p) b m < 0 → ∀ σ', gx_ [] [] [0, 1] σ σ' → σ'.2.1 = σ.2.1 → FX_ tp n (5, p) σ' → Q (some (am_I (-1))) σ') (hY : tks_ tp n p = 1 ∧ own_ (tkw_ tp n p) = false → 0 ≤ fi_ g (tkw_ tp n p) b m → Q (some (am_I (fi_ g (tkw_ tp n p) b m))) σ) : am_Ev d 60 [am_R 66, am_I 3] σ Q := by
  obtain ⟨d, rfl⟩ : ∃ e, d = e + 1 := ⟨d - 1, by omega⟩
  refine ev_in (m := 60) (c := k_X4_known) (L := [some (am_R 66), some (am_I 3), none]) rfl rfl rfl rfl rfl rfl ?_
  refine ax_load (q := 1) rfl rfl rfl rfl rfl ?_
  refine ax_getf (q := 4) (v := am_I (kx_ tp n p)) rfl rfl (am_fg rfl hC.kx.2.1) ?_
  refine ax_const (q := 6) (v := am_I 100) rfl rfl rfl ?_
  refine ax_icmp_eq (q := 9) (x := 16) rfl rfl (fun h6 => ?_) (fun h6 => ?_)
  · refine ax_load (q := 17) rfl rfl rfl rfl rfl ?_
    refine ax_load (q := 18) rfl rfl rfl rfl rfl ?_
    refine ax_callv (q := 21) rfl rfl rfl rfl rfl rfl ?_
    have hkn := kx_n.mp (show kx_ tp n p = 100 by omega)
    have hnm := hC.kx.2.2.1 hkn.1
    have hfb := fi_bd g (tkw_ tp n p) b m
    refine x_find3 (by omega) hC hN hnm.1 hnm.2 ?_
    refine ax_store (q := 22) (L' := [some (am_R 66), some (am_I 3), some (am_I (fi_ g (tkw_ tp n p) b m))]) rfl rfl rfl rfl rfl rfl ?_
    refine ax_load (q := 23) rfl rfl rfl rfl rfl ?_
    refine ax_const (q := 24) (v := am_I (-1)) rfl rfl rfl ?_
    refine ax_icmp_ne (q := 27) (x := 33) rfl rfl (fun h24 => ?_) (fun h24 => ?_)
    · refine ax_load (q := 34) rfl rfl rfl rfl rfl ?_
      refine ax_ret (r := some (am_I (fi_ g (tkw_ tp n p) b m))) rfl rfl ?_
      exact hY hkn (by omega)
    · refine ax_load (q := 28) rfl rfl rfl rfl rfl ?_
      refine ax_const (q := 29) (v := am_I 5) rfl rfl rfl ?_
      refine ax_callv (q := 32) rfl rfl rfl rfl rfl rfl ?_
      refine x_refuse (by omega) hC.kx.1 (fun σ2 hf2 g0 g1 gJ => ?_)
      refine ax_pop (q := 33) rfl rfl rfl ?_
      refine ax_load (q := 34) rfl rfl rfl rfl rfl ?_
      refine ax_ret (r := some (am_I (fi_ g (tkw_ tp n p) b m))) rfl rfl ?_
      rw [show fi_ g (tkw_ tp n p) b m = -1 by omega]
      exact hU hkn (by omega) _ hf2 gJ ⟨by rw [g0]; exact (if_neg (fun e => by have := (kx_3 (tp := tp) (n := n) (p := p)).mpr e; omega)).symm, g1⟩
  · refine ax_load (q := 10) rfl rfl rfl rfl rfl ?_
    refine ax_callv (q := 13) rfl rfl rfl rfl rfl rfl ?_
    refine x_misplaced (by omega) hC (fun σ1 hf1 gJ g0 => ?_)
    refine ax_pop (q := 14) rfl rfl rfl ?_
    refine ax_const (q := 15) (v := am_I (-1)) rfl rfl rfl ?_
    refine ax_ret (r := some (am_I (-1))) rfl rfl ?_
    exact hK (fun e => by have := kx_n.mpr e; omega) _ hf1 gJ g0

