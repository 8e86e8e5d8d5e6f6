set_option maxRecDepth 65536 in
theorem lw_loop {d : Nat} (hd : 80 ≤ d) {n : Nat} (hn9 : n ≤ 3072) {f : Nat → Int} (hscr : ∀ j, j < n → -2147483648 ≤ f j ∧ f j ≤ 2147483647) {Q : Option am_V → am_S → Prop} (hQ : ∀ σ', Q (some (am_I 1)) σ') : ∀ (m i : Nat) (b : Int) (σ : am_S), n ≤ i + m → i ≤ n → 100 ≤ b → b + m ≤ 60000 → CP_ b σ → σ.2.2.2 = (f, n) → aW d 1 k_L_law Q 18 [some (am_R 900), some (am_R 0), some (am_R 135), some (am_I ((i : Nat) : Int))] [] σ := by
  intro m
  induction m with
  | zero =>
    intro i b σ hi hin hb1 hb0 hC hs
    have hn : σ.2.2.2.2 = n := by rw [hs]
    refine ax_load (q := 19) rfl rfl rfl rfl rfl ?_
    refine ax_load (q := 20) rfl rfl rfl rfl rfl ?_
    refine ax_slen (q := 21) rfl rfl ?_
    refine ax_const (q := 23) (v := am_I 6) rfl rfl rfl ?_
    refine ax_isub (q := 24) (z := ((σ.2.2.2.2 : Nat) : Int) - 6) rfl rfl (am_we rfl (by omega) (by omega)) ?_
    refine ax_icmp_gt (q := 27) (x := 1293) rfl rfl (fun h24 => ?_) (fun h => absurd h (by omega))
    refine ax_const (q := 1294) (v := am_I 1) rfl rfl rfl ?_
    exact ax_ret (r := some (am_I 1)) rfl ⟨rfl, Or.inr rfl⟩ (hQ _)
  | succ m ih =>
    intro i b σ hi hin hb1 hb0 hC hs
    have hn : σ.2.2.2.2 = n := by rw [hs]
    refine ax_load (q := 19) rfl rfl rfl rfl rfl ?_
    refine ax_load (q := 20) rfl rfl rfl rfl rfl ?_
    refine ax_slen (q := 21) rfl rfl ?_
    refine ax_const (q := 23) (v := am_I 6) rfl rfl rfl ?_
    refine ax_isub (q := 24) (z := ((σ.2.2.2.2 : Nat) : Int) - 6) rfl rfl (am_we rfl (by omega) (by omega)) ?_
    refine ax_icmp_gt (q := 27) (x := 1293) rfl rfl (fun h24 => ?_) (fun h24 => ?_)
    · refine ax_const (q := 1294) (v := am_I 1) rfl rfl rfl ?_
      exact ax_ret (r := some (am_I 1)) rfl ⟨rfl, Or.inr rfl⟩ (hQ _)
    · have hi6 : i + 6 ≤ n := by omega
      have hscr2 : ∀ j, j < n → -2147483648 ≤ σ.2.2.2.1 j ∧ σ.2.2.2.1 j ≤ 2147483647 := by rw [hs]; exact hscr
      have hgo : ∀ (b' : Int) (σ' : am_S), CP_ b' σ' → 100 ≤ b' → b' + m ≤ 60000 → σ'.2.2.2 = σ.2.2.2 → aW d 1 k_L_law Q 1287 [some (am_R 900), some (am_R 0), some (am_R 135), some (am_I ((i : Nat) : Int))] [] σ' := fun b' σ' hC' h1 h2 hs' => by
        refine ax_iinc (q := 1290) (z' := ((i + 6 : Nat) : Int)) (L' := [some (am_R 900), some (am_R 0), some (am_R 135), some (am_I ((i + 6 : Nat) : Int))]) rfl rfl rfl rfl (am_we (by omega) (by omega) (by omega)) rfl ?_
        refine ax_goto (x := 18) rfl ?_
        exact ih (i + 6) b' σ' (by omega) hi6 h1 h2 hC' (hs'.trans hs)
      have hq : ∀ σ', CP_ (b + 1) σ' → σ'.2.2.2 = σ.2.2.2 → aW d 1 k_L_law Q 1287 [some (am_R 900), some (am_R 0), some (am_R 135), some (am_I ((i : Nat) : Int))] [] σ' := fun σ' hC' hs' => hgo _ σ' hC' (by omega) (by omega) hs'
      refine ax_load (q := 28) rfl rfl rfl rfl rfl ?_
      refine ax_load (q := 29) rfl rfl rfl rfl rfl ?_
      refine bx_sld (q := 30) (k := i) (z := σ.2.2.2.1 i) rfl rfl (by omega) (by omega) rfl ?_
      refine ax_const (q := 32) (v := am_I 63) rfl rfl rfl ?_
      refine ax_iand (q := 33) (z := am_and (σ.2.2.2.1 i) 63) rfl rfl rfl ?_
      generalize am_and (σ.2.2.2.1 i) 63 = z
      by_cases hk0 : z = 0
      · refine ax_tsw (q := 204) rfl (by rw [hk0]; rfl) ?_
        exact lc_feed hd (by omega) hb1 hC hn hi6 hn9 hscr2 hq
      by_cases hk1 : z = 1
      · refine ax_tsw (q := 267) rfl (by rw [hk1]; rfl) ?_
        exact lc_end hd (by omega) hb1 hC hn hi6 hn9 hscr2 hq
      by_cases hk2 : z = 2
      · refine ax_tsw (q := 290) rfl (by rw [hk2]; rfl) ?_
        exact lc_town hd (by omega) hb1 hC hn hi6 hn9 hscr2 hq
      by_cases hk3 : z = 3
      · refine ax_tsw (q := 303) rfl (by rw [hk3]; rfl) ?_
        exact lc_fault hd (by omega) hb1 hC hn hi6 hn9 hscr2 hq
      by_cases hk4 : z = 4
      · refine ax_tsw (q := 326) rfl (by rw [hk4]; rfl) ?_
        exact lc_person hd (by omega) hb1 hC hn hi6 hn9 hscr2 hq
      by_cases hk5 : z = 5
      · refine ax_tsw (q := 359) rfl (by rw [hk5]; rfl) ?_
        exact lc_level hd (by omega) hb1 hC hn hi6 hn9 hscr2 hq
      by_cases hk6 : z = 6
      · refine ax_tsw (q := 392) rfl (by rw [hk6]; rfl) ?_
        exact lc_order hd (by omega) hb1 hC hn hi6 hn9 hscr2 hq
      by_cases hk7 : z = 7
      · refine ax_tsw (q := 425) rfl (by rw [hk7]; rfl) ?_
        exact lc_share hd (by omega) hb1 hC hn hi6 hn9 hscr2 hq
      by_cases hk8 : z = 8
      · refine ax_tsw (q := 458) rfl (by rw [hk8]; rfl) ?_
        exact lc_many hd (by omega) hb1 hC hn hi6 hn9 hscr2 hq
      by_cases hk9 : z = 9
      · refine ax_tsw (q := 481) rfl (by rw [hk9]; rfl) ?_
        exact lc_done hd (by omega) hb1 hC hn hi6 hn9 hscr2 hq
      by_cases hk10 : z = 10
      · refine ax_tsw (q := 494) rfl (by rw [hk10]; rfl) ?_
        exact lc_prepare hd (by omega) hb1 hC hn hi6 hn9 hscr2 hq
      by_cases hk11 : z = 11
      · refine ax_tsw (q := 527) rfl (by rw [hk11]; rfl) ?_
        exact lc_steam hd (by omega) hb1 hC hn hi6 hn9 hscr2 hq
      by_cases hk12 : z = 12
      · refine ax_tsw (q := 550) rfl (by rw [hk12]; rfl) ?_
        exact lc_swap hd (by omega) hb1 hC hn hi6 hn9 hscr2 hq
      by_cases hk13 : z = 13
      · refine ax_tsw (q := 583) rfl (by rw [hk13]; rfl) ?_
        exact lc_forge hd (by omega) hb1 hC hn hi6 hn9 hscr2 hq
      by_cases hk14 : z = 14
      · refine ax_tsw (q := 616) rfl (by rw [hk14]; rfl) ?_
        exact lc_opens hd (by omega) hb1 hC hn hi6 hn9 hscr2 hq
      by_cases hk15 : z = 15
      · refine ax_tsw (q := 639) rfl (by rw [hk15]; rfl) ?_
        exact lc_year hd (by omega) hb1 hC hn hi6 hn9 hscr2 hq
      by_cases hk16 : z = 16
      · refine ax_tsw (q := 652) rfl (by rw [hk16]; rfl) ?_
        exact lc_undo hd (by omega) hb1 hC hn hi6 hn9 hscr2 hq
      by_cases hk17 : z = 17
      · refine ax_tsw (q := 665) rfl (by rw [hk17]; rfl) ?_
        exact lc_redo hd (by omega) hb1 hC hn hi6 hn9 hscr2 hq
      by_cases hk18 : z = 18
      · refine ax_tsw (q := 678) rfl (by rw [hk18]; rfl) ?_
        exact lc_odds hd (by omega) hb1 hC hn hi6 hn9 hscr2 hq
      by_cases hk19 : z = 19
      · refine ax_tsw (q := 711) rfl (by rw [hk19]; rfl) ?_
        exact lc_life hd (by omega) hb1 hC hn hi6 hn9 hscr2 hq
      by_cases hk20 : z = 20
      · refine ax_tsw (q := 734) rfl (by rw [hk20]; rfl) ?_
        exact lc_hope hd (by omega) hb1 hC hn hi6 hn9 hscr2 hq
      by_cases hk21 : z = 21
      · refine ax_tsw (q := 767) rfl (by rw [hk21]; rfl) ?_
        exact lc_able hd (by omega) hb1 hC hn hi6 hn9 hscr2 hq
      by_cases hk22 : z = 22
      · refine ax_tsw (q := 790) rfl (by rw [hk22]; rfl) ?_
        exact lc_ready hd (by omega) hb1 hC hn hi6 hn9 hscr2 hq
      by_cases hk23 : z = 23
      · refine ax_tsw (q := 823) rfl (by rw [hk23]; rfl) ?_
        exact lc_lost hd (by omega) hb1 hC hn hi6 hn9 hscr2 hq
      by_cases hk24 : z = 24
      · refine ax_tsw (q := 846) rfl (by rw [hk24]; rfl) ?_
        exact lc_will hd (by omega) hb1 hC hn hi6 hn9 hscr2 hq
      by_cases hk25 : z = 25
      · refine ax_tsw (q := 879) rfl (by rw [hk25]; rfl) ?_
        exact lc_first hd (by omega) hb1 hC hn hi6 hn9 hscr2 hq
      by_cases hk26 : z = 26
      · refine ax_tsw (q := 902) rfl (by rw [hk26]; rfl) ?_
        exact lc_rings hd (by omega) hb1 hC hn hi6 hn9 hscr2 hq
      by_cases hk27 : z = 27
      · refine ax_tsw (q := 915) rfl (by rw [hk27]; rfl) ?_
        exact lc_opening hd (by omega) hb1 hC hn hi6 hn9 hscr2 hq
      by_cases hk28 : z = 28
      · refine ax_tsw (q := 938) rfl (by rw [hk28]; rfl) ?_
        exact lc_law hd (by omega) hb1 hC hn hi6 hn9 hscr2 hq
      by_cases hk29 : z = 29
      · refine ax_tsw (q := 971) rfl (by rw [hk29]; rfl) ?_
        exact lc_lies hd (by omega) hb1 hC hn hi6 hn9 hscr2 hq
      by_cases hk30 : z = 30
      · refine ax_tsw (q := 994) rfl (by rw [hk30]; rfl) ?_
        exact lc_sign hd (by omega) hb1 hC hn hi6 hn9 hscr2 hq
      by_cases hk31 : z = 31
      · refine ax_tsw (q := 1063) rfl (by rw [hk31]; rfl) ?_
        exact lc_untell hd (by omega) hb1 hC hn hi6 hn9 hscr2 hq
      by_cases hk32 : z = 32
      · refine ax_tsw (q := 1086) rfl (by rw [hk32]; rfl) ?_
        exact lc_later hd (by omega) hb1 hC hn hi6 hn9 hscr2 hq
      by_cases hk33 : z = 33
      · refine ax_tsw (q := 1109) rfl (by rw [hk33]; rfl) ?_
        exact lc_meant hd (by omega) hb1 hC hn hi6 hn9 hscr2 hq
      by_cases hk34 : z = 34
      · refine ax_tsw (q := 1142) rfl (by rw [hk34]; rfl) ?_
        exact lc_likely hd (by omega) hb1 hC hn hi6 hn9 hscr2 hq
      by_cases hk35 : z = 35
      · refine ax_tsw (q := 1175) rfl (by rw [hk35]; rfl) ?_
        exact lc_ask hd (by omega) hb1 hC hn hi6 hn9 hscr2 hq
      by_cases hk36 : z = 36
      · refine ax_tsw (q := 1218) rfl (by rw [hk36]; rfl) ?_
        exact lc_image hd (by omega) hb1 hC hn hi6 hn9 hscr2 hq
      by_cases hk37 : z = 37
      · refine ax_tsw (q := 1241) rfl (by rw [hk37]; rfl) ?_
        exact lc_back hd (by omega) hb1 hC hn hi6 hn9 hscr2 hq
      by_cases hk38 : z = 38
      · refine ax_tsw (q := 1264) rfl (by rw [hk38]; rfl) ?_
        exact lc_about hd (by omega) hb1 hC hn hi6 hn9 hscr2 hq
      refine ax_tsw (q := 1287) rfl ?_ (hgo b σ hC hb1 (by omega) rfl)
      have hz : z < 0 ∨ 38 < z := by omega
      unfold am_tsw
      rw [if_pos hz]
      rfl
