theorem gz_neg {T : sp_T} {v : sp_V} {p s : Nat} {z : Int} (hz : z < 0) (hp : p < 6) (hs : s < 4) : ∀ n : Nat, gz_ T v p z n (24 + 4 * p + s) = v (24 + 4 * p + s)
  | 0 => rfl
  | n + 1 => by
    have ih := gz_neg (T := T) (v := v) hz hp hs n
    show ga_ T (gz_ T v p z n) p z (24 + 4 * p + s) = _
    unfold ga_ ln_
    rw [if_pos hz, am_up_ne (by omega), am_up_ne (by omega), ih]
theorem PL_.f8 {t : Nat} {T : sp_T} {v : sp_V} {σ σ' : am_S} (h : PL_ 68 t T v σ) (hf : fr_ [119, 121, 122, t + 31] σ σ') : PL_ 68 t T v σ' := h.fr hf (by have := h.ht; intro a ha; simp at ha; omega)

theorem x_look {d : Nat} (hd : 5 ≤ d) {σ : am_S} {t : Nat} {T : sp_T} {v : sp_V} (hL : PL_ 68 t T v σ) (hV : TV_ T) {b : Int} (hW : VV_ T b v) (hb9 : b < 900000) {p : Nat} (hp : p < nP_ T) {Q : Option am_V → am_S → Prop} (hQ : ∀ σ', fr_ [119, 121, 122, t + 31] σ σ' → PR_ T v (gz_ T v p (v (18 + p)) (yf_ T v p)) p σ' → σ'.1 119 5 = ((yf_ T v p : Nat) : Int) → Q none σ') : am_Ev d 30 [am_R 119, am_I ((p : Nat) : Int)] σ Q := by
  obtain ⟨d, rfl⟩ : ∃ e, d = e + 1 := ⟨d - 1, by omega⟩
  have ht := hL.ht
  have hw := (hW.2.2 p hp).2.2.2.1
  have hyf := yf_bd hV hW hp
  have hh : v (18 + p) = -1 ∨ ∃ s : Nat, v (18 + p) = (s : Int) ∧ s < 4 := by
    by_cases q : v (18 + p) < 0
    · exact Or.inl (by omega)
    · have := hV.nS; exact Or.inr ⟨(v (18 + p)).toNat, by omega, by omega⟩
  have h6 := hV.nP
  have hO8 := hV.nO
  have hS4 := hV.nS
  have hR3 := hV.nR
  refine ev_in (m := 30) (c := k_X3_look) (L := [some (am_R 119), some (am_I ((p : Nat) : Int)), none]) rfl rfl rfl rfl rfl rfl ?_
  refine ax_load (q := 1) rfl rfl rfl rfl rfl ?_
  refine ax_load (q := 2) rfl rfl rfl rfl rfl ?_
  refine ax_putf (q := 5) rfl rfl rfl ?_
  obtain ⟨σ21, he⟩ : ∃ s9, s9 = (am_sI σ 119 (am_up (σ.1 119) 4 ((p : Nat) : Int))) := ⟨_, rfl⟩
  rw [← he]
  have hf21 : fr_ [119, 121, 122, t + 31] σ σ21 := by rw [he]; exact fr_sI (fr_rf _ _) (by simp)
  have hL21 := hL.f8 hf21
  have z421 : σ21.1 119 4 = ((p : Nat) : Int) := by rw [he, sI_at, am_up_same]
  have e21 : σ21.1 122 = σ.1 122 := by rw [he, sI_ne (by decide)]
  clear he
  refine ax_load (q := 6) rfl rfl rfl rfl rfl ?_
  refine ax_load (q := 7) rfl rfl rfl rfl rfl ?_
  refine ax_getf (q := 10) (v := am_R 68) rfl rfl (rfl) ?_
  refine ax_load (q := 11) rfl rfl rfl rfl rfl ?_
  refine ax_getf (q := 14) (v := am_I ((p : Nat) : Int)) rfl rfl (am_fg rfl z421) ?_
  refine ax_callv (q := 17) rfl rfl rfl rfl rfl rfl ?_
  refine x_yearsTillOpened (by omega) hL21 hV hp hW (by omega) ?_
  refine ax_putf (q := 20) rfl rfl rfl ?_
  obtain ⟨σ22, he⟩ : ∃ s9, s9 = (am_sI σ21 119 (am_up (σ21.1 119) 5 ((yf_ T v p : Nat) : Int))) := ⟨_, rfl⟩
  rw [← he]
  have hf22 : fr_ [119, 121, 122, t + 31] σ σ22 := by rw [he]; exact fr_sI hf21 (by simp)
  have hL22 := hL.f8 hf22
  have z422 : σ22.1 119 4 = ((p : Nat) : Int) := by rw [he, sI_at, am_up_ne (by decide)]; exact z421
  have z522 : σ22.1 119 5 = ((yf_ T v p : Nat) : Int) := by rw [he, sI_at, am_up_same]
  have e22 : σ22.1 122 = σ.1 122 := by rw [he, sI_ne (by decide)]; exact e21
  clear he
  refine ax_const (q := 21) (v := am_I 0) rfl rfl rfl ?_
  refine ax_store (q := 22) (L' := [some (am_R 119), some (am_I ((p : Nat) : Int)), some (am_I 0)]) rfl rfl rfl rfl rfl rfl ?_
  refine ax_load (q := 23) rfl rfl rfl rfl rfl ?_
  refine ax_const (q := 24) (v := am_I 4) rfl rfl rfl ?_
  refine ax_icmp_ge (q := 27) (x := 51) rfl rfl (fun h => absurd h (by omega)) (fun h24 => ?_)
  refine ax_load (q := 28) rfl rfl rfl rfl rfl ?_
  refine ax_getf (q := 31) (v := am_R 122) rfl rfl (rfl) ?_
  refine ax_load (q := 32) rfl rfl rfl rfl rfl ?_
  refine ax_load (q := 33) rfl rfl rfl rfl rfl ?_
  refine ax_getf (q := 36) (v := am_R 68) rfl rfl (rfl) ?_
  refine ax_load (q := 37) rfl rfl rfl rfl rfl ?_
  refine ax_getf (q := 40) (v := am_I ((p : Nat) : Int)) rfl rfl (am_fg rfl z422) ?_
  refine ax_load (q := 41) rfl rfl rfl rfl rfl ?_
  refine ax_callv (q := 44) rfl rfl rfl rfl rfl rfl ?_
  refine x_levelOf (s := 0) (by omega) hL22 hV hp (by decide) ?_
  refine bx_iast (q := 45) (k := 0) rfl rfl (rfl) (by omega) (by omega) ?_
  obtain ⟨σ23, he⟩ : ∃ s9, s9 = (am_sI σ22 122 (am_up (σ22.1 122) 0 (v (24 + 4 * p + 0)))) := ⟨_, rfl⟩
  rw [← he]
  have hf23 : fr_ [119, 121, 122, t + 31] σ σ23 := by rw [he]; exact fr_sI hf22 (by simp)
  have hL23 := hL.f8 hf23
  have z423 : σ23.1 119 4 = ((p : Nat) : Int) := by rw [he, sI_ne (by decide)]; exact z422
  have z523 : σ23.1 119 5 = ((yf_ T v p : Nat) : Int) := by rw [he, sI_ne (by decide)]; exact z522
  have e23 : σ23.1 122 = am_up (σ.1 122) 0 ((v (24 + 4 * p + 0))) := by rw [he, sI_at, e22]
  clear he
  refine ax_iinc (q := 48) (z' := ((1 : Nat) : Int)) (L' := [some (am_R 119), some (am_I ((p : Nat) : Int)), some (am_I ((1 : Nat) : Int))]) rfl rfl rfl rfl (am_we (by omega) (by omega) (by omega)) rfl ?_
  refine ax_goto (x := 22) rfl ?_
  refine ax_load (q := 23) rfl rfl rfl rfl rfl ?_
  refine ax_const (q := 24) (v := am_I 4) rfl rfl rfl ?_
  refine ax_icmp_ge (q := 27) (x := 51) rfl rfl (fun h => absurd h (by omega)) (fun h24 => ?_)
  refine ax_load (q := 28) rfl rfl rfl rfl rfl ?_
  refine ax_getf (q := 31) (v := am_R 122) rfl rfl (rfl) ?_
  refine ax_load (q := 32) rfl rfl rfl rfl rfl ?_
  refine ax_load (q := 33) rfl rfl rfl rfl rfl ?_
  refine ax_getf (q := 36) (v := am_R 68) rfl rfl (rfl) ?_
  refine ax_load (q := 37) rfl rfl rfl rfl rfl ?_
  refine ax_getf (q := 40) (v := am_I ((p : Nat) : Int)) rfl rfl (am_fg rfl z423) ?_
  refine ax_load (q := 41) rfl rfl rfl rfl rfl ?_
  refine ax_callv (q := 44) rfl rfl rfl rfl rfl rfl ?_
  refine x_levelOf (s := 1) (by omega) hL23 hV hp (by decide) ?_
  refine bx_iast (q := 45) (k := 1) rfl rfl (rfl) (by omega) (by omega) ?_
  obtain ⟨σ24, he⟩ : ∃ s9, s9 = (am_sI σ23 122 (am_up (σ23.1 122) 1 (v (24 + 4 * p + 1)))) := ⟨_, rfl⟩
  rw [← he]
  have hf24 : fr_ [119, 121, 122, t + 31] σ σ24 := by rw [he]; exact fr_sI hf23 (by simp)
  have hL24 := hL.f8 hf24
  have z424 : σ24.1 119 4 = ((p : Nat) : Int) := by rw [he, sI_ne (by decide)]; exact z423
  have z524 : σ24.1 119 5 = ((yf_ T v p : Nat) : Int) := by rw [he, sI_ne (by decide)]; exact z523
  have e24 : σ24.1 122 = am_up (am_up (σ.1 122) 0 ((v (24 + 4 * p + 0)))) 1 ((v (24 + 4 * p + 1))) := by rw [he, sI_at, e23]
  clear he
  refine ax_iinc (q := 48) (z' := ((2 : Nat) : Int)) (L' := [some (am_R 119), some (am_I ((p : Nat) : Int)), some (am_I ((2 : Nat) : Int))]) rfl rfl rfl rfl (am_we (by omega) (by omega) (by omega)) rfl ?_
  refine ax_goto (x := 22) rfl ?_
  refine ax_load (q := 23) rfl rfl rfl rfl rfl ?_
  refine ax_const (q := 24) (v := am_I 4) rfl rfl rfl ?_
  refine ax_icmp_ge (q := 27) (x := 51) rfl rfl (fun h => absurd h (by omega)) (fun h24 => ?_)
  refine ax_load (q := 28) rfl rfl rfl rfl rfl ?_
  refine ax_getf (q := 31) (v := am_R 122) rfl rfl (rfl) ?_
  refine ax_load (q := 32) rfl rfl rfl rfl rfl ?_
  refine ax_load (q := 33) rfl rfl rfl rfl rfl ?_
  refine ax_getf (q := 36) (v := am_R 68) rfl rfl (rfl) ?_
  refine ax_load (q := 37) rfl rfl rfl rfl rfl ?_
  refine ax_getf (q := 40) (v := am_I ((p : Nat) : Int)) rfl rfl (am_fg rfl z424) ?_
  refine ax_load (q := 41) rfl rfl rfl rfl rfl ?_
  refine ax_callv (q := 44) rfl rfl rfl rfl rfl rfl ?_
  refine x_levelOf (s := 2) (by omega) hL24 hV hp (by decide) ?_
  refine bx_iast (q := 45) (k := 2) rfl rfl (rfl) (by omega) (by omega) ?_
  obtain ⟨σ25, he⟩ : ∃ s9, s9 = (am_sI σ24 122 (am_up (σ24.1 122) 2 (v (24 + 4 * p + 2)))) := ⟨_, rfl⟩
  rw [← he]
  have hf25 : fr_ [119, 121, 122, t + 31] σ σ25 := by rw [he]; exact fr_sI hf24 (by simp)
  have hL25 := hL.f8 hf25
  have z425 : σ25.1 119 4 = ((p : Nat) : Int) := by rw [he, sI_ne (by decide)]; exact z424
  have z525 : σ25.1 119 5 = ((yf_ T v p : Nat) : Int) := by rw [he, sI_ne (by decide)]; exact z524
  have e25 : σ25.1 122 = am_up (am_up (am_up (σ.1 122) 0 ((v (24 + 4 * p + 0)))) 1 ((v (24 + 4 * p + 1)))) 2 ((v (24 + 4 * p + 2))) := by rw [he, sI_at, e24]
  clear he
  refine ax_iinc (q := 48) (z' := ((3 : Nat) : Int)) (L' := [some (am_R 119), some (am_I ((p : Nat) : Int)), some (am_I ((3 : Nat) : Int))]) rfl rfl rfl rfl (am_we (by omega) (by omega) (by omega)) rfl ?_
  refine ax_goto (x := 22) rfl ?_
  refine ax_load (q := 23) rfl rfl rfl rfl rfl ?_
  refine ax_const (q := 24) (v := am_I 4) rfl rfl rfl ?_
  refine ax_icmp_ge (q := 27) (x := 51) rfl rfl (fun h => absurd h (by omega)) (fun h24 => ?_)
  refine ax_load (q := 28) rfl rfl rfl rfl rfl ?_
  refine ax_getf (q := 31) (v := am_R 122) rfl rfl (rfl) ?_
  refine ax_load (q := 32) rfl rfl rfl rfl rfl ?_
  refine ax_load (q := 33) rfl rfl rfl rfl rfl ?_
  refine ax_getf (q := 36) (v := am_R 68) rfl rfl (rfl) ?_
  refine ax_load (q := 37) rfl rfl rfl rfl rfl ?_
  refine ax_getf (q := 40) (v := am_I ((p : Nat) : Int)) rfl rfl (am_fg rfl z425) ?_
  refine ax_load (q := 41) rfl rfl rfl rfl rfl ?_
  refine ax_callv (q := 44) rfl rfl rfl rfl rfl rfl ?_
  refine x_levelOf (s := 3) (by omega) hL25 hV hp (by decide) ?_
  refine bx_iast (q := 45) (k := 3) rfl rfl (rfl) (by omega) (by omega) ?_
  obtain ⟨σ26, he⟩ : ∃ s9, s9 = (am_sI σ25 122 (am_up (σ25.1 122) 3 (v (24 + 4 * p + 3)))) := ⟨_, rfl⟩
  rw [← he]
  have hf26 : fr_ [119, 121, 122, t + 31] σ σ26 := by rw [he]; exact fr_sI hf25 (by simp)
  have hL26 := hL.f8 hf26
  have z426 : σ26.1 119 4 = ((p : Nat) : Int) := by rw [he, sI_ne (by decide)]; exact z425
  have z526 : σ26.1 119 5 = ((yf_ T v p : Nat) : Int) := by rw [he, sI_ne (by decide)]; exact z525
  have e26 : σ26.1 122 = am_up (am_up (am_up (am_up (σ.1 122) 0 ((v (24 + 4 * p + 0)))) 1 ((v (24 + 4 * p + 1)))) 2 ((v (24 + 4 * p + 2)))) 3 ((v (24 + 4 * p + 3))) := by rw [he, sI_at, e25]
  clear he
  refine ax_iinc (q := 48) (z' := ((4 : Nat) : Int)) (L' := [some (am_R 119), some (am_I ((p : Nat) : Int)), some (am_I ((4 : Nat) : Int))]) rfl rfl rfl rfl (am_we (by omega) (by omega) (by omega)) rfl ?_
  refine ax_goto (x := 22) rfl ?_
  refine ax_load (q := 23) rfl rfl rfl rfl rfl ?_
  refine ax_const (q := 24) (v := am_I 4) rfl rfl rfl ?_
  refine ax_icmp_ge (q := 27) (x := 51) rfl rfl (fun h24 => ?_) (fun h => absurd h (by omega))
  rcases hh with hh | ⟨s, hsv, hs4⟩
  · refine ax_load (q := 52) rfl rfl rfl rfl rfl ?_
    refine ax_getf (q := 55) (v := am_R 68) rfl rfl (rfl) ?_
    refine ax_getf (q := 58) (v := am_R 69) rfl rfl (rfl) ?_
    refine ax_const (q := 60) (v := am_I 12) rfl rfl rfl ?_
    refine ax_load (q := 61) rfl rfl rfl rfl rfl ?_
    refine ax_getf (q := 64) (v := am_I ((p : Nat) : Int)) rfl rfl (am_fg rfl z426) ?_
    refine ax_iadd (q := 65) (z := ((12 + p : Nat) : Int)) rfl rfl (am_we (by omega) (by omega) (by omega)) ?_
    refine bx_iald (q := 66) (k := 12 + p) (z := (-1)) rfl rfl (rfl) (by omega) (by omega) ((hL26.rw.pr _ hp).trans hh) ?_
    refine ax_store (q := 67) (L' := [some (am_R 119), some (am_I ((p : Nat) : Int)), some (am_I (-1))]) rfl rfl rfl rfl rfl rfl ?_
    refine ax_load (q := 68) rfl rfl rfl rfl rfl ?_
    refine ax_const (q := 69) (v := am_I (-1)) rfl rfl rfl ?_
    refine ax_icmp_eq (q := 72) (x := 94) rfl rfl (fun h69 => ?_) (fun h => absurd rfl h)
    refine ax_ret (r := none) rfl rfl ?_
    refine hQ _ hf26 ⟨z426, fun s hs => ?_, ?_, ?_⟩ z526
    · rw [hh, gz_neg (by decide) (by omega) hs, e26]
      rcases (by omega : s = 0 ∨ s = 1 ∨ s = 2 ∨ s = 3) with rfl | rfl | rfl | rfl <;> simp [am_up]
    · rw [gz_ne hV (by omega) hw.2 (by omega) (by omega) (by omega)]
    · rw [gz_ne hV (by omega) hw.2 (by omega) (by omega) (by omega)]
  · refine ax_load (q := 52) rfl rfl rfl rfl rfl ?_
    refine ax_getf (q := 55) (v := am_R 68) rfl rfl (rfl) ?_
    refine ax_getf (q := 58) (v := am_R 69) rfl rfl (rfl) ?_
    refine ax_const (q := 60) (v := am_I 12) rfl rfl rfl ?_
    refine ax_load (q := 61) rfl rfl rfl rfl rfl ?_
    refine ax_getf (q := 64) (v := am_I ((p : Nat) : Int)) rfl rfl (am_fg rfl z426) ?_
    refine ax_iadd (q := 65) (z := ((12 + p : Nat) : Int)) rfl rfl (am_we (by omega) (by omega) (by omega)) ?_
    refine bx_iald (q := 66) (k := 12 + p) (z := ((s : Nat) : Int)) rfl rfl (rfl) (by omega) (by omega) ((hL26.rw.pr _ hp).trans hsv) ?_
    refine ax_store (q := 67) (L' := [some (am_R 119), some (am_I ((p : Nat) : Int)), some (am_I ((s : Nat) : Int))]) rfl rfl rfl rfl rfl rfl ?_
    refine ax_load (q := 68) rfl rfl rfl rfl rfl ?_
    refine ax_const (q := 69) (v := am_I (-1)) rfl rfl rfl ?_
    refine ax_icmp_eq (q := 72) (x := 94) rfl rfl (fun h => absurd h (by omega)) (fun h69 => ?_)
    refine ax_load (q := 73) rfl rfl rfl rfl rfl ?_
    refine ax_getf (q := 76) (v := am_R 122) rfl rfl (rfl) ?_
    refine ax_load (q := 77) rfl rfl rfl rfl rfl ?_
    refine ax_load (q := 78) rfl rfl rfl rfl rfl ?_
    refine ax_getf (q := 81) (v := am_R 68) rfl rfl (rfl) ?_
    refine ax_load (q := 82) rfl rfl rfl rfl rfl ?_
    refine ax_getf (q := 85) (v := am_I ((p : Nat) : Int)) rfl rfl (am_fg rfl z426) ?_
    refine ax_load (q := 86) rfl rfl rfl rfl rfl ?_
    refine ax_load (q := 87) rfl rfl rfl rfl rfl ?_
    refine ax_getf (q := 90) (v := am_I ((yf_ T v p : Nat) : Int)) rfl rfl (am_fg rfl z526) ?_
    refine ax_callv (q := 93) rfl rfl rfl rfl rfl rfl ?_
    refine x_levelBehind (s := s) (n := yf_ T v p) (by omega) hL26 hV hW (by omega) hp hs4 (by omega) (fun σ99 hf9 => ?_)
    have hf99 : fr_ [119, 121, 122, t + 31] σ σ99 := fr_tr hf26 hf9 (by simp)
    have e99 : σ99.1 122 = am_up (am_up (am_up (am_up (σ.1 122) 0 ((v (24 + 4 * p + 0)))) 1 ((v (24 + 4 * p + 1)))) 2 ((v (24 + 4 * p + 2)))) 3 ((v (24 + 4 * p + 3))) := (hf9.1 122 (by simp; omega)).trans e26
    have z499 : σ99.1 119 4 = ((p : Nat) : Int) := by rw [hf9.1 119 (by simp; omega)]; exact z426
    have z599 : σ99.1 119 5 = ((yf_ T v p : Nat) : Int) := by rw [hf9.1 119 (by simp; omega)]; exact z526
    refine bx_iast (q := 94) (k := s) rfl rfl (rfl) (by omega) (by omega) ?_
    refine ax_ret (r := none) rfl rfl ?_
    refine hQ _ (fr_sI hf99 (by simp)) ⟨?_, fun s2 hs2 => ?_, ?_, ?_⟩ ?_
    · rw [sI_ne (by decide)]; exact z499
    · rw [sI_at, e99, hsv]
      by_cases q : s2 = s
      · rw [q, am_up_same, (gz_at (by omega) hs4 _).1]
      · rw [am_up_ne q, (gz_at (by omega) hs4 _).2.2.2 s2 hs2 q]
        rcases (by omega : s2 = 0 ∨ s2 = 1 ∨ s2 = 2 ∨ s2 = 3) with rfl | rfl | rfl | rfl <;> simp [am_up]
    · rw [gz_ne hV (by omega) hw.2 (by omega) (by omega) (by omega)]
    · rw [gz_ne hV (by omega) hw.2 (by omega) (by omega) (by omega)]
    · rw [sI_ne (by decide)]; exact z599

theorem x_odds {d : Nat} (hd : 6 ≤ d) {σ : am_S} {t : Nat} {T : sp_T} {v : sp_V} (hL : PL_ 68 t T v σ) (hV : TV_ T) {b : Int} (hW : VV_ T b v) (hb9 : b < 900000) {a k : Int} {Q : Option am_V → am_S → Prop} (hQ : ∀ σ', xf_ [71, 119, 120, 121, 122, t + 31] σ σ' → Q (some (am_I (F_odds T v a k))) σ') : am_Ev d 113 [am_R 0, am_I a, am_I k] σ Q := by
  obtain ⟨d, rfl⟩ : ∃ e, d = e + 1 := ⟨d - 1, by omega⟩
  have h6 := hV.nP
  have hO8 := hV.nO
  have hS4 := hV.nS
  have hR3 := hV.nR
  refine ev_in (m := 113) (c := k_X8_odds) (L := [some (am_R 0), some (am_I a), some (am_I k)]) rfl rfl rfl rfl rfl rfl ?_
  refine ax_load (q := 1) rfl rfl rfl rfl rfl ?_
  refine ax_load (q := 2) rfl rfl rfl rfl rfl ?_
  refine ax_callv (q := 5) rfl rfl rfl rfl rfl rfl ?_
  refine x_isUnopened (by omega) hL hV ?_
  refine ax_if_ne (q := 8) (x := 10) rfl rfl (fun h5 => ?_) (fun h5 => ?_)
  · have hb5 := it_n0 h5
    obtain ⟨p, rfl, hp, hsh⟩ := sn_t hb5
    refine ax_load (q := 11) rfl rfl rfl rfl rfl ?_
    refine ax_getf (q := 14) (v := am_R 119) rfl rfl (rfl) ?_
    refine ax_load (q := 15) rfl rfl rfl rfl rfl ?_
    refine ax_callv (q := 18) rfl rfl rfl rfl rfl rfl ?_
    obtain ⟨u, hu⟩ : ∃ u, u = gz_ T v p (v (18 + p)) (yf_ T v p) := ⟨_, rfl⟩
    refine x_look (by omega) hL hV hW hb9 hp (fun σ1 hf1 hR1 h5 => ?_)
    rw [← hu] at hR1
    have hL1 := hL.f8 hf1
    have hws := (hW.2.2 p hp).2.2.2.1
    have hWu : VV_ T (b + (yf_ T v p : Nat)) u := by rw [hu]; exact hW.gz hV hp hws.2 _
    have hbv := po_bd (v := u) hV hp
    have hbl := pl_bd (v := u) hV hp
    obtain ⟨A, hA⟩ : ∃ A : Nat, po_ T u p = (A : Int) := ⟨(po_ T u p).toNat, by omega⟩
    obtain ⟨B, hB⟩ : ∃ B : Nat, pl_ T u p = (B : Int) := ⟨(pl_ T u p).toNat, by omega⟩
    refine ax_load (q := 19) rfl rfl rfl rfl rfl ?_
    refine ax_getf (q := 22) (v := am_R 119) rfl rfl (rfl) ?_
    refine ax_callv (q := 25) rfl rfl rfl rfl rfl rfl ?_
    refine x_parts (by omega) hL1 hV hp hR1 hW ?_
    rw [hA]
    refine ax_load (q := 26) rfl rfl rfl rfl rfl ?_
    refine ax_getf (q := 29) (v := am_R 119) rfl rfl (rfl) ?_
    refine ax_callv (q := 32) rfl rfl rfl rfl rfl rfl ?_
    refine x_wholes (by omega) hL1 hV hp hR1 ?_
    rw [hB]
    refine ax_load (q := 33) rfl rfl rfl rfl rfl ?_
    refine ax_calls (q := 36) rfl rfl rfl rfl rfl ?_
    refine x_part (by omega) (by omega) (by omega) (by omega) ?_
    refine ax_ret (r := some (am_I (if k = 0 then ((A / Nat.gcd B A : Nat) : Int) else if k = 1 then ((B / Nat.gcd B A : Nat) : Int) else -1))) rfl rfl ?_
    refine Eq.mp (congrArg (fun z => Q (some (am_I z)) _) ?_) (hQ _ (xf_fr hf1 (by simp)))
    by_cases hk : 0 ≤ k ∧ k ≤ 1
    · rw [F_odds_u hb5 hk hu, hA, hB]
      unfold gcd_
      rw [Int.toNat_natCast, Int.toNat_natCast]
      by_cases k0 : k = 0
      · rw [if_pos k0, if_pos k0]
      · rw [if_neg k0, if_neg k0, if_pos (by omega)]
    · unfold F_odds
      rw [show decide (0 ≤ k ∧ k ≤ 1) = false from decide_eq_false hk, Bool.and_false]
      simp [show ¬ k = 0 by omega, show ¬ k = 1 by omega]
  · have hb5 := it_0 h5
    refine ax_const (q := 9) (v := am_I (-1)) rfl rfl rfl ?_
    refine ax_ret (r := some (am_I (-1))) rfl rfl ?_
    refine Eq.mp (congrArg (fun z => Q (some (am_I z)) _) ?_) (hQ _ (xf_rf _ _))
    unfold F_odds
    rw [hb5]
    rfl

theorem x_hope {d : Nat} (hd : 6 ≤ d) {σ : am_S} {t : Nat} {T : sp_T} {v : sp_V} (hL : PL_ 68 t T v σ) (hV : TV_ T) {b : Int} (hW : VV_ T b v) (hb9 : b < 900000) {a k : Int} {Q : Option am_V → am_S → Prop} (hQ : ∀ σ', xf_ [71, 119, 120, 121, 122, t + 31] σ σ' → Q (some (am_I (F_hope T v a k))) σ') : am_Ev d 114 [am_R 0, am_I a, am_I k] σ Q := by
  obtain ⟨d, rfl⟩ : ∃ e, d = e + 1 := ⟨d - 1, by omega⟩
  have h6 := hV.nP
  have hO8 := hV.nO
  have hS4 := hV.nS
  have hR3 := hV.nR
  refine ev_in (m := 114) (c := k_X8_hope) (L := [some (am_R 0), some (am_I a), some (am_I k)]) rfl rfl rfl rfl rfl rfl ?_
  refine ax_load (q := 1) rfl rfl rfl rfl rfl ?_
  refine ax_load (q := 2) rfl rfl rfl rfl rfl ?_
  refine ax_callv (q := 5) rfl rfl rfl rfl rfl rfl ?_
  refine x_isUnopened (by omega) hL hV ?_
  refine ax_if_ne (q := 8) (x := 10) rfl rfl (fun h5 => ?_) (fun h5 => ?_)
  · have hb5 := it_n0 h5
    obtain ⟨p, rfl, hp, hsh⟩ := sn_t hb5
    refine ax_load (q := 11) rfl rfl rfl rfl rfl ?_
    refine ax_getf (q := 14) (v := am_R 119) rfl rfl (rfl) ?_
    refine ax_load (q := 15) rfl rfl rfl rfl rfl ?_
    refine ax_callv (q := 18) rfl rfl rfl rfl rfl rfl ?_
    obtain ⟨u, hu⟩ : ∃ u, u = gz_ T v p (v (18 + p)) (yf_ T v p) := ⟨_, rfl⟩
    refine x_look (by omega) hL hV hW hb9 hp (fun σ1 hf1 hR1 h5 => ?_)
    rw [← hu] at hR1
    have hL1 := hL.f8 hf1
    have hws := (hW.2.2 p hp).2.2.2.1
    have hWu : VV_ T (b + (yf_ T v p : Nat)) u := by rw [hu]; exact hW.gz hV hp hws.2 _
    have hbv := wo_bd hV hWu hp
    have hbl := pl_bd (v := u) hV hp
    obtain ⟨A, hA⟩ : ∃ A : Nat, wo_ T u p = (A : Int) := ⟨(wo_ T u p).toNat, by omega⟩
    obtain ⟨B, hB⟩ : ∃ B : Nat, pl_ T u p = (B : Int) := ⟨(pl_ T u p).toNat, by omega⟩
    refine ax_load (q := 19) rfl rfl rfl rfl rfl ?_
    refine ax_getf (q := 22) (v := am_R 119) rfl rfl (rfl) ?_
    refine ax_callv (q := 25) rfl rfl rfl rfl rfl rfl ?_
    refine x_worths (by omega) hL1 hV hp hR1 hW ?_
    rw [hA]
    refine ax_load (q := 26) rfl rfl rfl rfl rfl ?_
    refine ax_getf (q := 29) (v := am_R 119) rfl rfl (rfl) ?_
    refine ax_callv (q := 32) rfl rfl rfl rfl rfl rfl ?_
    refine x_wholes (by omega) hL1 hV hp hR1 ?_
    rw [hB]
    refine ax_load (q := 33) rfl rfl rfl rfl rfl ?_
    refine ax_calls (q := 36) rfl rfl rfl rfl rfl ?_
    refine x_part (by omega) (by omega) (by omega) (by omega) ?_
    refine ax_ret (r := some (am_I (if k = 0 then ((A / Nat.gcd B A : Nat) : Int) else if k = 1 then ((B / Nat.gcd B A : Nat) : Int) else -1))) rfl rfl ?_
    refine Eq.mp (congrArg (fun z => Q (some (am_I z)) _) ?_) (hQ _ (xf_fr hf1 (by simp)))
    by_cases hk : 0 ≤ k ∧ k ≤ 1
    · rw [F_hope_u hb5 hk hu, hA, hB]
      unfold gcd_
      rw [Int.toNat_natCast, Int.toNat_natCast]
      by_cases k0 : k = 0
      · rw [if_pos k0, if_pos k0]
      · rw [if_neg k0, if_neg k0, if_pos (by omega)]
    · unfold F_hope
      rw [show decide (0 ≤ k ∧ k ≤ 1) = false from decide_eq_false hk, Bool.and_false]
      simp [show ¬ k = 0 by omega, show ¬ k = 1 by omega]
  · have hb5 := it_0 h5
    refine ax_const (q := 9) (v := am_I (-1)) rfl rfl rfl ?_
    refine ax_ret (r := some (am_I (-1))) rfl rfl ?_
    refine Eq.mp (congrArg (fun z => Q (some (am_I z)) _) ?_) (hQ _ (xf_rf _ _))
    unfold F_hope
    rw [hb5]
    rfl

