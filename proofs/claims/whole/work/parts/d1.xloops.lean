theorem xl_term {d : Nat} {σ : am_S} {tp : Nat → Int} {n t w D0 : Nat} (hd : D0 ≤ d) (hD : 4 ≤ D0) {X : Nat → Nat → sp_E} (hX : CX_ tp n t 58 w D0 X) (hW : RW_ n 1 X) {st : List (Int × Int)} {Q : Option am_V → am_S → Prop} : ∀ (k i p u : Nat) (s : List (Int × Int)) (x3 : Option am_V) (σ' : am_S), i + k = 30 → gx_ [t + 28, t + 29, t + 30] [] [0, 1, 5, 6, 7, 9] σ σ' → RC_ tp n t p σ' → FO_ t u (st ++ s) σ' → (st ++ s).length + 1 ≤ 10 * u → u ≤ 30 → (∀ e, lp_ tp n X 6 k p u s = Sum.inl e → ∀ σ2, gx_ [t + 28, t + 29, t + 30] [] [0, 1, 5, 6, 7, 9] σ σ2 → FX_ tp n e σ2 → Q (some (am_I 0)) σ2) → (∀ p' u' s', lp_ tp n X 6 k p u s = Sum.inr (p', u', s') → ∀ σ2, gx_ [t + 28, t + 29, t + 30] [] [0, 1, 5, 6, 7, 9] σ σ2 → RC_ tp n t p' σ2 → FO_ t u' (st ++ s') σ2 → Q (some (am_I 1)) σ2) → aW d 1 k_X4_term Q 12 [some (am_R 66), some (am_I ((w : Nat) : Int)), some (am_I ((i : Nat) : Int)), x3] [] σ' := by
  intro k
  induction k with
  | zero =>
    intro i p u s x3 σ' hi hf hC hF hl hu hE hY
    have ht := hC.ht
    have hX7 : PT_ t := ht
    refine ax_load (q := 13) rfl rfl rfl rfl rfl ?_
    refine ax_const (q := 15) (v := am_I 30) rfl rfl rfl ?_
    refine ax_icmp_ge (q := 18) (x := 82) rfl rfl (fun h15 => ?_) (fun h => absurd h (by omega))
    refine ax_const (q := 83) (v := am_I 1) rfl rfl rfl ?_
    refine ax_ret (r := some (am_I 1)) rfl ⟨rfl, Or.inr rfl⟩ ?_
    exact hY p u s rfl _ hf hC hF
  | succ k ih =>
    intro i p u s x3 σ' hi hf hC hF hl hu hE hY
    have ht := hC.ht
    have hX7 : PT_ t := ht
    refine ax_load (q := 13) rfl rfl rfl rfl rfl ?_
    refine ax_const (q := 15) (v := am_I 30) rfl rfl rfl ?_
    refine ax_icmp_ge (q := 18) (x := 82) rfl rfl (fun h => absurd h (by omega)) (fun h15 => ?_)
    refine ax_load (q := 19) rfl rfl rfl rfl rfl ?_
    refine ax_getf (q := 22) (v := am_I (kx_ tp n p)) rfl rfl (am_fg rfl hC.kx.2.1) ?_
    refine ax_const (q := 24) (v := am_I 42) rfl rfl rfl ?_
    refine ax_icmp_eq (q := 27) (x := 45) rfl rfl (fun h24 => ?_) (fun h24 => ?_)
    · refine ax_load (q := 46) rfl rfl rfl rfl rfl ?_
      refine ax_getf (q := 49) (v := am_I (kx_ tp n p)) rfl rfl (am_fg rfl hC.kx.2.1) ?_
      refine ax_store (q := 50) (L' := [some (am_R 66), some (am_I ((w : Nat) : Int)), some (am_I ((i : Nat) : Int)), some (am_I (kx_ tp n p))]) rfl rfl rfl rfl rfl rfl ?_
      refine ax_load (q := 51) rfl rfl rfl rfl rfl ?_
      refine ax_callv (q := 54) rfl rfl rfl rfl rfl rfl ?_
      have hs := sgy6 (tp := tp) (n := n) (p := p) (by omega)
      have hlp : lp_ tp n X 6 (k + 1) p u s = sb_ (X (nxp_ tp n p) u) fun r => lp_ tp n X 6 k r.1 r.2.1 (s ++ r.2.2 ++ [(3, sg2_ tp n p)]) := if_pos ⟨hs.1, hs.2.1⟩
      rw [hlp] at hE hY
      refine x_nextT (by omega) hC (sg_tk hs.1).2 (fun σ1 hg1 hC1 => ?_)
      have hf1 : gx_ [t + 28, t + 29, t + 30] [] [0, 1, 5, 6, 7, 9] σ σ1 := gx_tr2 hf (gx_su hg1 (by intro x hx; simp at hx ⊢ <;> omega) (by intro x hx; simp at hx ⊢ <;> omega) (by intro x hx; simp at hx ⊢ <;> omega))
      have hF1 := hF.fr hg1 ht (by intro a ha; cases ha)
      refine ax_load (q := 55) rfl rfl rfl rfl rfl ?_
      refine ax_load (q := 56) rfl rfl rfl rfl rfl ?_
      refine ax_callv (q := 59) rfl rfl rfl rfl rfl rfl ?_
      refine hX d σ1 (nxp_ tp n p) u (st ++ s) _ (by omega) hC1 hF1 (by omega) hu (fun e he σe hge g0 => ?_) (fun p2 u2 s2 he σ2 hg2 hC2 hF2 => ?_)
      · rw [he] at hE
        simp only [sbl_] at hE
        refine ax_if_ne (q := 62) (x := 64) rfl rfl (fun h => absurd h (by omega)) (fun h59 => ?_)
        refine ax_const (q := 63) (v := am_I 0) rfl rfl rfl ?_
        refine ax_ret (r := some (am_I 0)) rfl ⟨rfl, Or.inl rfl⟩ ?_
        exact hE _ rfl _ (gx_tr2 hf1 hge) g0
      · obtain ⟨b1, b2, b3, b4, b5, b6⟩ := hW _ _ _ _ _ hC1.pn hu he
        rw [he] at hE hY
        simp only [sbr_] at hE hY
        have hln : (st ++ s ++ s2).length = (st ++ s).length + s2.length := List.length_append
        have hf2 : gx_ [t + 28, t + 29, t + 30] [] [0, 1, 5, 6, 7, 9] σ σ2 := gx_tr2 hf1 hg2
        refine ax_if_ne (q := 62) (x := 64) rfl rfl (fun h59 => ?_) (fun h => absurd h (by omega))
        refine ax_load (q := 65) rfl rfl rfl rfl rfl ?_
        refine ax_getf (q := 68) (v := am_R t) rfl rfl (am_fgR rfl hC2.tn) ?_
        refine ax_getf (q := 71) (v := am_R (t + 28)) rfl rfl (xg7_9 hX7.ht) ?_
        refine ax_load (q := 72) rfl rfl rfl rfl rfl ?_
        refine ax_const (q := 73) (v := am_I 0) rfl rfl rfl ?_
        refine ax_callv (q := 76) rfl rfl rfl rfl rfl (kd_28 hX7.ht) ?_
        refine x_fo_add (x := 3) (y := sg2_ tp n p) (by omega) ht hF2 (by omega) hs.2.2 (fun e => absurd e (by decide)) (fun σ3 hg3 hF3 => ?_)
        have hg3x := gx_fr hg3 (by simp; omega)
        have hC3 := hC2.fr hg3x (by simp <;> omega) (by simp) (by simp) (by rw [hg3.2])
        have hf3 : gx_ [t + 28, t + 29, t + 30] [] [0, 1, 5, 6, 7, 9] σ σ3 := gx_tr2 hf2 (gx_su hg3x (by intro x hx; simp at hx ⊢ <;> omega) (by intro x hx; simp at hx ⊢ <;> omega) (by intro x hx; simp at hx ⊢ <;> omega))
        refine ax_iinc (q := 79) (z' := ((i + 1 : Nat) : Int)) (L' := [some (am_R 66), some (am_I ((w : Nat) : Int)), some (am_I ((i + 1 : Nat) : Int)), some (am_I (kx_ tp n p))]) rfl rfl rfl rfl (am_we (by omega) (by omega) (by omega)) rfl ?_
        refine ax_goto (x := 12) rfl ?_
        have hln2 : (st ++ (s ++ s2 ++ [((3 : Int), sg2_ tp n p)])).length = (st ++ s ++ s2).length + 1 := by rw [List.length_append, List.length_append, List.length_append, List.length_append, List.length_append, List.length_singleton]; omega
        exact ih (i + 1) p2 u2 (s ++ s2 ++ [(3, sg2_ tp n p)]) _ σ3 (by omega) hf3 hC3 (by rw [show st ++ (s ++ s2 ++ [((3 : Int), sg2_ tp n p)]) = st ++ s ++ s2 ++ [((3 : Int), sg2_ tp n p)] from by simp only [List.append_assoc]]; exact hF3) (by omega) b4 hE hY
    · refine ax_load (q := 28) rfl rfl rfl rfl rfl ?_
      refine ax_getf (q := 31) (v := am_I (kx_ tp n p)) rfl rfl (am_fg rfl hC.kx.2.1) ?_
      refine ax_const (q := 33) (v := am_I 47) rfl rfl rfl ?_
      refine ax_icmp_eq (q := 36) (x := 45) rfl rfl (fun h33 => ?_) (fun h33 => ?_)
      · refine ax_load (q := 46) rfl rfl rfl rfl rfl ?_
        refine ax_getf (q := 49) (v := am_I (kx_ tp n p)) rfl rfl (am_fg rfl hC.kx.2.1) ?_
        refine ax_store (q := 50) (L' := [some (am_R 66), some (am_I ((w : Nat) : Int)), some (am_I ((i : Nat) : Int)), some (am_I (kx_ tp n p))]) rfl rfl rfl rfl rfl rfl ?_
        refine ax_load (q := 51) rfl rfl rfl rfl rfl ?_
        refine ax_callv (q := 54) rfl rfl rfl rfl rfl rfl ?_
        have hs := sgy6 (tp := tp) (n := n) (p := p) (by omega)
        have hlp : lp_ tp n X 6 (k + 1) p u s = sb_ (X (nxp_ tp n p) u) fun r => lp_ tp n X 6 k r.1 r.2.1 (s ++ r.2.2 ++ [(3, sg2_ tp n p)]) := if_pos ⟨hs.1, hs.2.1⟩
        rw [hlp] at hE hY
        refine x_nextT (by omega) hC (sg_tk hs.1).2 (fun σ1 hg1 hC1 => ?_)
        have hf1 : gx_ [t + 28, t + 29, t + 30] [] [0, 1, 5, 6, 7, 9] σ σ1 := gx_tr2 hf (gx_su hg1 (by intro x hx; simp at hx ⊢ <;> omega) (by intro x hx; simp at hx ⊢ <;> omega) (by intro x hx; simp at hx ⊢ <;> omega))
        have hF1 := hF.fr hg1 ht (by intro a ha; cases ha)
        refine ax_load (q := 55) rfl rfl rfl rfl rfl ?_
        refine ax_load (q := 56) rfl rfl rfl rfl rfl ?_
        refine ax_callv (q := 59) rfl rfl rfl rfl rfl rfl ?_
        refine hX d σ1 (nxp_ tp n p) u (st ++ s) _ (by omega) hC1 hF1 (by omega) hu (fun e he σe hge g0 => ?_) (fun p2 u2 s2 he σ2 hg2 hC2 hF2 => ?_)
        · rw [he] at hE
          simp only [sbl_] at hE
          refine ax_if_ne (q := 62) (x := 64) rfl rfl (fun h => absurd h (by omega)) (fun h59 => ?_)
          refine ax_const (q := 63) (v := am_I 0) rfl rfl rfl ?_
          refine ax_ret (r := some (am_I 0)) rfl ⟨rfl, Or.inl rfl⟩ ?_
          exact hE _ rfl _ (gx_tr2 hf1 hge) g0
        · obtain ⟨b1, b2, b3, b4, b5, b6⟩ := hW _ _ _ _ _ hC1.pn hu he
          rw [he] at hE hY
          simp only [sbr_] at hE hY
          have hln : (st ++ s ++ s2).length = (st ++ s).length + s2.length := List.length_append
          have hf2 : gx_ [t + 28, t + 29, t + 30] [] [0, 1, 5, 6, 7, 9] σ σ2 := gx_tr2 hf1 hg2
          refine ax_if_ne (q := 62) (x := 64) rfl rfl (fun h59 => ?_) (fun h => absurd h (by omega))
          refine ax_load (q := 65) rfl rfl rfl rfl rfl ?_
          refine ax_getf (q := 68) (v := am_R t) rfl rfl (am_fgR rfl hC2.tn) ?_
          refine ax_getf (q := 71) (v := am_R (t + 28)) rfl rfl (xg7_9 hX7.ht) ?_
          refine ax_load (q := 72) rfl rfl rfl rfl rfl ?_
          refine ax_const (q := 73) (v := am_I 0) rfl rfl rfl ?_
          refine ax_callv (q := 76) rfl rfl rfl rfl rfl (kd_28 hX7.ht) ?_
          refine x_fo_add (x := 3) (y := sg2_ tp n p) (by omega) ht hF2 (by omega) hs.2.2 (fun e => absurd e (by decide)) (fun σ3 hg3 hF3 => ?_)
          have hg3x := gx_fr hg3 (by simp; omega)
          have hC3 := hC2.fr hg3x (by simp <;> omega) (by simp) (by simp) (by rw [hg3.2])
          have hf3 : gx_ [t + 28, t + 29, t + 30] [] [0, 1, 5, 6, 7, 9] σ σ3 := gx_tr2 hf2 (gx_su hg3x (by intro x hx; simp at hx ⊢ <;> omega) (by intro x hx; simp at hx ⊢ <;> omega) (by intro x hx; simp at hx ⊢ <;> omega))
          refine ax_iinc (q := 79) (z' := ((i + 1 : Nat) : Int)) (L' := [some (am_R 66), some (am_I ((w : Nat) : Int)), some (am_I ((i + 1 : Nat) : Int)), some (am_I (kx_ tp n p))]) rfl rfl rfl rfl (am_we (by omega) (by omega) (by omega)) rfl ?_
          refine ax_goto (x := 12) rfl ?_
          have hln2 : (st ++ (s ++ s2 ++ [((3 : Int), sg2_ tp n p)])).length = (st ++ s ++ s2).length + 1 := by rw [List.length_append, List.length_append, List.length_append, List.length_append, List.length_append, List.length_singleton]; omega
          exact ih (i + 1) p2 u2 (s ++ s2 ++ [(3, sg2_ tp n p)]) _ σ3 (by omega) hf3 hC3 (by rw [show st ++ (s ++ s2 ++ [((3 : Int), sg2_ tp n p)]) = st ++ s ++ s2 ++ [((3 : Int), sg2_ tp n p)] from by simp only [List.append_assoc]]; exact hF3) (by omega) b4 hE hY
      · refine ax_load (q := 37) rfl rfl rfl rfl rfl ?_
        refine ax_getf (q := 40) (v := am_I (kx_ tp n p)) rfl rfl (am_fg rfl hC.kx.2.1) ?_
        refine ax_const (q := 42) (v := am_I 37) rfl rfl rfl ?_
        refine ax_icmp_ne (q := 45) (x := 82) rfl rfl (fun h42 => ?_) (fun h42 => ?_)
        · refine ax_const (q := 83) (v := am_I 1) rfl rfl rfl ?_
          refine ax_ret (r := some (am_I 1)) rfl ⟨rfl, Or.inr rfl⟩ ?_
          exact hY p u s (if_neg (sgn6 (by omega))) _ hf hC hF
        · refine ax_load (q := 46) rfl rfl rfl rfl rfl ?_
          refine ax_getf (q := 49) (v := am_I (kx_ tp n p)) rfl rfl (am_fg rfl hC.kx.2.1) ?_
          refine ax_store (q := 50) (L' := [some (am_R 66), some (am_I ((w : Nat) : Int)), some (am_I ((i : Nat) : Int)), some (am_I (kx_ tp n p))]) rfl rfl rfl rfl rfl rfl ?_
          refine ax_load (q := 51) rfl rfl rfl rfl rfl ?_
          refine ax_callv (q := 54) rfl rfl rfl rfl rfl rfl ?_
          have hs := sgy6 (tp := tp) (n := n) (p := p) (by omega)
          have hlp : lp_ tp n X 6 (k + 1) p u s = sb_ (X (nxp_ tp n p) u) fun r => lp_ tp n X 6 k r.1 r.2.1 (s ++ r.2.2 ++ [(3, sg2_ tp n p)]) := if_pos ⟨hs.1, hs.2.1⟩
          rw [hlp] at hE hY
          refine x_nextT (by omega) hC (sg_tk hs.1).2 (fun σ1 hg1 hC1 => ?_)
          have hf1 : gx_ [t + 28, t + 29, t + 30] [] [0, 1, 5, 6, 7, 9] σ σ1 := gx_tr2 hf (gx_su hg1 (by intro x hx; simp at hx ⊢ <;> omega) (by intro x hx; simp at hx ⊢ <;> omega) (by intro x hx; simp at hx ⊢ <;> omega))
          have hF1 := hF.fr hg1 ht (by intro a ha; cases ha)
          refine ax_load (q := 55) rfl rfl rfl rfl rfl ?_
          refine ax_load (q := 56) rfl rfl rfl rfl rfl ?_
          refine ax_callv (q := 59) rfl rfl rfl rfl rfl rfl ?_
          refine hX d σ1 (nxp_ tp n p) u (st ++ s) _ (by omega) hC1 hF1 (by omega) hu (fun e he σe hge g0 => ?_) (fun p2 u2 s2 he σ2 hg2 hC2 hF2 => ?_)
          · rw [he] at hE
            simp only [sbl_] at hE
            refine ax_if_ne (q := 62) (x := 64) rfl rfl (fun h => absurd h (by omega)) (fun h59 => ?_)
            refine ax_const (q := 63) (v := am_I 0) rfl rfl rfl ?_
            refine ax_ret (r := some (am_I 0)) rfl ⟨rfl, Or.inl rfl⟩ ?_
            exact hE _ rfl _ (gx_tr2 hf1 hge) g0
          · obtain ⟨b1, b2, b3, b4, b5, b6⟩ := hW _ _ _ _ _ hC1.pn hu he
            rw [he] at hE hY
            simp only [sbr_] at hE hY
            have hln : (st ++ s ++ s2).length = (st ++ s).length + s2.length := List.length_append
            have hf2 : gx_ [t + 28, t + 29, t + 30] [] [0, 1, 5, 6, 7, 9] σ σ2 := gx_tr2 hf1 hg2
            refine ax_if_ne (q := 62) (x := 64) rfl rfl (fun h59 => ?_) (fun h => absurd h (by omega))
            refine ax_load (q := 65) rfl rfl rfl rfl rfl ?_
            refine ax_getf (q := 68) (v := am_R t) rfl rfl (am_fgR rfl hC2.tn) ?_
            refine ax_getf (q := 71) (v := am_R (t + 28)) rfl rfl (xg7_9 hX7.ht) ?_
            refine ax_load (q := 72) rfl rfl rfl rfl rfl ?_
            refine ax_const (q := 73) (v := am_I 0) rfl rfl rfl ?_
            refine ax_callv (q := 76) rfl rfl rfl rfl rfl (kd_28 hX7.ht) ?_
            refine x_fo_add (x := 3) (y := sg2_ tp n p) (by omega) ht hF2 (by omega) hs.2.2 (fun e => absurd e (by decide)) (fun σ3 hg3 hF3 => ?_)
            have hg3x := gx_fr hg3 (by simp; omega)
            have hC3 := hC2.fr hg3x (by simp <;> omega) (by simp) (by simp) (by rw [hg3.2])
            have hf3 : gx_ [t + 28, t + 29, t + 30] [] [0, 1, 5, 6, 7, 9] σ σ3 := gx_tr2 hf2 (gx_su hg3x (by intro x hx; simp at hx ⊢ <;> omega) (by intro x hx; simp at hx ⊢ <;> omega) (by intro x hx; simp at hx ⊢ <;> omega))
            refine ax_iinc (q := 79) (z' := ((i + 1 : Nat) : Int)) (L' := [some (am_R 66), some (am_I ((w : Nat) : Int)), some (am_I ((i + 1 : Nat) : Int)), some (am_I (kx_ tp n p))]) rfl rfl rfl rfl (am_we (by omega) (by omega) (by omega)) rfl ?_
            refine ax_goto (x := 12) rfl ?_
            have hln2 : (st ++ (s ++ s2 ++ [((3 : Int), sg2_ tp n p)])).length = (st ++ s ++ s2).length + 1 := by rw [List.length_append, List.length_append, List.length_append, List.length_append, List.length_append, List.length_singleton]; omega
            exact ih (i + 1) p2 u2 (s ++ s2 ++ [(3, sg2_ tp n p)]) _ σ3 (by omega) hf3 hC3 (by rw [show st ++ (s ++ s2 ++ [((3 : Int), sg2_ tp n p)]) = st ++ s ++ s2 ++ [((3 : Int), sg2_ tp n p)] from by simp only [List.append_assoc]]; exact hF3) (by omega) b4 hE hY

theorem cx_term {tp : Nat → Int} {n t w D0 : Nat} (hD : 4 ≤ D0) {X : Nat → Nat → sp_E} (hX : CX_ tp n t 58 w D0 X) (hW : RW_ n 1 X) : CX_ tp n t 57 w (D0 + 1) (rdx_ tp n X 6) := by
  intro d σ p u st Q hd hC hF hl hu hE hY
  obtain ⟨d, rfl⟩ : ∃ e, d = e + 1 := ⟨d - 1, by omega⟩
  have ht := hC.ht
  unfold rdx_ at hE hY
  refine ev_in (m := 57) (c := k_X4_term) (L := [some (am_R 66), some (am_I ((w : Nat) : Int)), none, none]) rfl rfl rfl rfl rfl rfl ?_
  refine ax_load (q := 1) rfl rfl rfl rfl rfl ?_
  refine ax_load (q := 2) rfl rfl rfl rfl rfl ?_
  refine ax_callv (q := 5) rfl rfl rfl rfl rfl rfl ?_
  refine hX d σ p u st _ (by omega) hC hF hl hu (fun e he σe hge g0 => ?_) (fun p2 u2 s2 he σ2 hg2 hC2 hF2 => ?_)
  · rw [he] at hE
    simp only [sbl_] at hE
    refine ax_if_ne (q := 8) (x := 10) rfl rfl (fun h => absurd h (by omega)) (fun h5 => ?_)
    refine ax_const (q := 9) (v := am_I 0) rfl rfl rfl ?_
    refine ax_ret (r := some (am_I 0)) rfl ⟨rfl, Or.inl rfl⟩ ?_
    exact hE _ rfl _ hge g0
  · obtain ⟨b1, b2, b3, b4, b5, b6⟩ := hW _ _ _ _ _ hC.pn hu he
    rw [he] at hE hY
    simp only [sbr_] at hE hY
    have hln : (st ++ s2).length = st.length + s2.length := List.length_append
    refine ax_if_ne (q := 8) (x := 10) rfl rfl (fun h5 => ?_) (fun h => absurd h (by omega))
    refine ax_const (q := 11) (v := am_I 0) rfl rfl rfl ?_
    refine ax_store (q := 12) (L' := [some (am_R 66), some (am_I ((w : Nat) : Int)), some (am_I 0), none]) rfl rfl rfl rfl rfl rfl ?_
    exact xl_term (by omega) hD hX hW 30 0 p2 u2 s2 none σ2 (by omega) hg2 hC2 hF2 (by omega) b4 hE hY

theorem xl_sum {d : Nat} {σ : am_S} {tp : Nat → Int} {n t w D0 : Nat} (hd : D0 ≤ d) (hD : 4 ≤ D0) {X : Nat → Nat → sp_E} (hX : CX_ tp n t 57 w D0 X) (hW : RW_ n 1 X) {st : List (Int × Int)} {Q : Option am_V → am_S → Prop} : ∀ (k i p u : Nat) (s : List (Int × Int)) (x3 : Option am_V) (σ' : am_S), i + k = 30 → gx_ [t + 28, t + 29, t + 30] [] [0, 1, 5, 6, 7, 9] σ σ' → RC_ tp n t p σ' → FO_ t u (st ++ s) σ' → (st ++ s).length + 1 ≤ 10 * u → u ≤ 30 → (∀ e, lp_ tp n X 5 k p u s = Sum.inl e → ∀ σ2, gx_ [t + 28, t + 29, t + 30] [] [0, 1, 5, 6, 7, 9] σ σ2 → FX_ tp n e σ2 → Q (some (am_I 0)) σ2) → (∀ p' u' s', lp_ tp n X 5 k p u s = Sum.inr (p', u', s') → ∀ σ2, gx_ [t + 28, t + 29, t + 30] [] [0, 1, 5, 6, 7, 9] σ σ2 → RC_ tp n t p' σ2 → FO_ t u' (st ++ s') σ2 → Q (some (am_I 1)) σ2) → aW d 1 k_X4_sum Q 12 [some (am_R 66), some (am_I ((w : Nat) : Int)), some (am_I ((i : Nat) : Int)), x3] [] σ' := by
  intro k
  induction k with
  | zero =>
    intro i p u s x3 σ' hi hf hC hF hl hu hE hY
    have ht := hC.ht
    have hX7 : PT_ t := ht
    refine ax_load (q := 13) rfl rfl rfl rfl rfl ?_
    refine ax_const (q := 15) (v := am_I 30) rfl rfl rfl ?_
    refine ax_icmp_ge (q := 18) (x := 73) rfl rfl (fun h15 => ?_) (fun h => absurd h (by omega))
    refine ax_const (q := 74) (v := am_I 1) rfl rfl rfl ?_
    refine ax_ret (r := some (am_I 1)) rfl ⟨rfl, Or.inr rfl⟩ ?_
    exact hY p u s rfl _ hf hC hF
  | succ k ih =>
    intro i p u s x3 σ' hi hf hC hF hl hu hE hY
    have ht := hC.ht
    have hX7 : PT_ t := ht
    refine ax_load (q := 13) rfl rfl rfl rfl rfl ?_
    refine ax_const (q := 15) (v := am_I 30) rfl rfl rfl ?_
    refine ax_icmp_ge (q := 18) (x := 73) rfl rfl (fun h => absurd h (by omega)) (fun h15 => ?_)
    refine ax_load (q := 19) rfl rfl rfl rfl rfl ?_
    refine ax_getf (q := 22) (v := am_I (kx_ tp n p)) rfl rfl (am_fg rfl hC.kx.2.1) ?_
    refine ax_const (q := 24) (v := am_I 43) rfl rfl rfl ?_
    refine ax_icmp_eq (q := 27) (x := 36) rfl rfl (fun h24 => ?_) (fun h24 => ?_)
    · refine ax_load (q := 37) rfl rfl rfl rfl rfl ?_
      refine ax_getf (q := 40) (v := am_I (kx_ tp n p)) rfl rfl (am_fg rfl hC.kx.2.1) ?_
      refine ax_store (q := 41) (L' := [some (am_R 66), some (am_I ((w : Nat) : Int)), some (am_I ((i : Nat) : Int)), some (am_I (kx_ tp n p))]) rfl rfl rfl rfl rfl rfl ?_
      refine ax_load (q := 42) rfl rfl rfl rfl rfl ?_
      refine ax_callv (q := 45) rfl rfl rfl rfl rfl rfl ?_
      have hs := sgy5 (tp := tp) (n := n) (p := p) (by omega)
      have hlp : lp_ tp n X 5 (k + 1) p u s = sb_ (X (nxp_ tp n p) u) fun r => lp_ tp n X 5 k r.1 r.2.1 (s ++ r.2.2 ++ [(3, sg2_ tp n p)]) := if_pos ⟨hs.1, hs.2.1⟩
      rw [hlp] at hE hY
      refine x_nextT (by omega) hC (sg_tk hs.1).2 (fun σ1 hg1 hC1 => ?_)
      have hf1 : gx_ [t + 28, t + 29, t + 30] [] [0, 1, 5, 6, 7, 9] σ σ1 := gx_tr2 hf (gx_su hg1 (by intro x hx; simp at hx ⊢ <;> omega) (by intro x hx; simp at hx ⊢ <;> omega) (by intro x hx; simp at hx ⊢ <;> omega))
      have hF1 := hF.fr hg1 ht (by intro a ha; cases ha)
      refine ax_load (q := 46) rfl rfl rfl rfl rfl ?_
      refine ax_load (q := 47) rfl rfl rfl rfl rfl ?_
      refine ax_callv (q := 50) rfl rfl rfl rfl rfl rfl ?_
      refine hX d σ1 (nxp_ tp n p) u (st ++ s) _ (by omega) hC1 hF1 (by omega) hu (fun e he σe hge g0 => ?_) (fun p2 u2 s2 he σ2 hg2 hC2 hF2 => ?_)
      · rw [he] at hE
        simp only [sbl_] at hE
        refine ax_if_ne (q := 53) (x := 55) rfl rfl (fun h => absurd h (by omega)) (fun h50 => ?_)
        refine ax_const (q := 54) (v := am_I 0) rfl rfl rfl ?_
        refine ax_ret (r := some (am_I 0)) rfl ⟨rfl, Or.inl rfl⟩ ?_
        exact hE _ rfl _ (gx_tr2 hf1 hge) g0
      · obtain ⟨b1, b2, b3, b4, b5, b6⟩ := hW _ _ _ _ _ hC1.pn hu he
        rw [he] at hE hY
        simp only [sbr_] at hE hY
        have hln : (st ++ s ++ s2).length = (st ++ s).length + s2.length := List.length_append
        have hf2 : gx_ [t + 28, t + 29, t + 30] [] [0, 1, 5, 6, 7, 9] σ σ2 := gx_tr2 hf1 hg2
        refine ax_if_ne (q := 53) (x := 55) rfl rfl (fun h50 => ?_) (fun h => absurd h (by omega))
        refine ax_load (q := 56) rfl rfl rfl rfl rfl ?_
        refine ax_getf (q := 59) (v := am_R t) rfl rfl (am_fgR rfl hC2.tn) ?_
        refine ax_getf (q := 62) (v := am_R (t + 28)) rfl rfl (xg7_9 hX7.ht) ?_
        refine ax_load (q := 63) rfl rfl rfl rfl rfl ?_
        refine ax_const (q := 64) (v := am_I 0) rfl rfl rfl ?_
        refine ax_callv (q := 67) rfl rfl rfl rfl rfl (kd_28 hX7.ht) ?_
        refine x_fo_add (x := 3) (y := sg2_ tp n p) (by omega) ht hF2 (by omega) hs.2.2 (fun e => absurd e (by decide)) (fun σ3 hg3 hF3 => ?_)
        have hg3x := gx_fr hg3 (by simp; omega)
        have hC3 := hC2.fr hg3x (by simp <;> omega) (by simp) (by simp) (by rw [hg3.2])
        have hf3 : gx_ [t + 28, t + 29, t + 30] [] [0, 1, 5, 6, 7, 9] σ σ3 := gx_tr2 hf2 (gx_su hg3x (by intro x hx; simp at hx ⊢ <;> omega) (by intro x hx; simp at hx ⊢ <;> omega) (by intro x hx; simp at hx ⊢ <;> omega))
        refine ax_iinc (q := 70) (z' := ((i + 1 : Nat) : Int)) (L' := [some (am_R 66), some (am_I ((w : Nat) : Int)), some (am_I ((i + 1 : Nat) : Int)), some (am_I (kx_ tp n p))]) rfl rfl rfl rfl (am_we (by omega) (by omega) (by omega)) rfl ?_
        refine ax_goto (x := 12) rfl ?_
        have hln2 : (st ++ (s ++ s2 ++ [((3 : Int), sg2_ tp n p)])).length = (st ++ s ++ s2).length + 1 := by rw [List.length_append, List.length_append, List.length_append, List.length_append, List.length_append, List.length_singleton]; omega
        exact ih (i + 1) p2 u2 (s ++ s2 ++ [(3, sg2_ tp n p)]) _ σ3 (by omega) hf3 hC3 (by rw [show st ++ (s ++ s2 ++ [((3 : Int), sg2_ tp n p)]) = st ++ s ++ s2 ++ [((3 : Int), sg2_ tp n p)] from by simp only [List.append_assoc]]; exact hF3) (by omega) b4 hE hY
    · refine ax_load (q := 28) rfl rfl rfl rfl rfl ?_
      refine ax_getf (q := 31) (v := am_I (kx_ tp n p)) rfl rfl (am_fg rfl hC.kx.2.1) ?_
      refine ax_const (q := 33) (v := am_I 45) rfl rfl rfl ?_
      refine ax_icmp_ne (q := 36) (x := 73) rfl rfl (fun h33 => ?_) (fun h33 => ?_)
      · refine ax_const (q := 74) (v := am_I 1) rfl rfl rfl ?_
        refine ax_ret (r := some (am_I 1)) rfl ⟨rfl, Or.inr rfl⟩ ?_
        exact hY p u s (if_neg (sgn5 (by omega))) _ hf hC hF
      · refine ax_load (q := 37) rfl rfl rfl rfl rfl ?_
        refine ax_getf (q := 40) (v := am_I (kx_ tp n p)) rfl rfl (am_fg rfl hC.kx.2.1) ?_
        refine ax_store (q := 41) (L' := [some (am_R 66), some (am_I ((w : Nat) : Int)), some (am_I ((i : Nat) : Int)), some (am_I (kx_ tp n p))]) rfl rfl rfl rfl rfl rfl ?_
        refine ax_load (q := 42) rfl rfl rfl rfl rfl ?_
        refine ax_callv (q := 45) rfl rfl rfl rfl rfl rfl ?_
        have hs := sgy5 (tp := tp) (n := n) (p := p) (by omega)
        have hlp : lp_ tp n X 5 (k + 1) p u s = sb_ (X (nxp_ tp n p) u) fun r => lp_ tp n X 5 k r.1 r.2.1 (s ++ r.2.2 ++ [(3, sg2_ tp n p)]) := if_pos ⟨hs.1, hs.2.1⟩
        rw [hlp] at hE hY
        refine x_nextT (by omega) hC (sg_tk hs.1).2 (fun σ1 hg1 hC1 => ?_)
        have hf1 : gx_ [t + 28, t + 29, t + 30] [] [0, 1, 5, 6, 7, 9] σ σ1 := gx_tr2 hf (gx_su hg1 (by intro x hx; simp at hx ⊢ <;> omega) (by intro x hx; simp at hx ⊢ <;> omega) (by intro x hx; simp at hx ⊢ <;> omega))
        have hF1 := hF.fr hg1 ht (by intro a ha; cases ha)
        refine ax_load (q := 46) rfl rfl rfl rfl rfl ?_
        refine ax_load (q := 47) rfl rfl rfl rfl rfl ?_
        refine ax_callv (q := 50) rfl rfl rfl rfl rfl rfl ?_
        refine hX d σ1 (nxp_ tp n p) u (st ++ s) _ (by omega) hC1 hF1 (by omega) hu (fun e he σe hge g0 => ?_) (fun p2 u2 s2 he σ2 hg2 hC2 hF2 => ?_)
        · rw [he] at hE
          simp only [sbl_] at hE
          refine ax_if_ne (q := 53) (x := 55) rfl rfl (fun h => absurd h (by omega)) (fun h50 => ?_)
          refine ax_const (q := 54) (v := am_I 0) rfl rfl rfl ?_
          refine ax_ret (r := some (am_I 0)) rfl ⟨rfl, Or.inl rfl⟩ ?_
          exact hE _ rfl _ (gx_tr2 hf1 hge) g0
        · obtain ⟨b1, b2, b3, b4, b5, b6⟩ := hW _ _ _ _ _ hC1.pn hu he
          rw [he] at hE hY
          simp only [sbr_] at hE hY
          have hln : (st ++ s ++ s2).length = (st ++ s).length + s2.length := List.length_append
          have hf2 : gx_ [t + 28, t + 29, t + 30] [] [0, 1, 5, 6, 7, 9] σ σ2 := gx_tr2 hf1 hg2
          refine ax_if_ne (q := 53) (x := 55) rfl rfl (fun h50 => ?_) (fun h => absurd h (by omega))
          refine ax_load (q := 56) rfl rfl rfl rfl rfl ?_
          refine ax_getf (q := 59) (v := am_R t) rfl rfl (am_fgR rfl hC2.tn) ?_
          refine ax_getf (q := 62) (v := am_R (t + 28)) rfl rfl (xg7_9 hX7.ht) ?_
          refine ax_load (q := 63) rfl rfl rfl rfl rfl ?_
          refine ax_const (q := 64) (v := am_I 0) rfl rfl rfl ?_
          refine ax_callv (q := 67) rfl rfl rfl rfl rfl (kd_28 hX7.ht) ?_
          refine x_fo_add (x := 3) (y := sg2_ tp n p) (by omega) ht hF2 (by omega) hs.2.2 (fun e => absurd e (by decide)) (fun σ3 hg3 hF3 => ?_)
          have hg3x := gx_fr hg3 (by simp; omega)
          have hC3 := hC2.fr hg3x (by simp <;> omega) (by simp) (by simp) (by rw [hg3.2])
          have hf3 : gx_ [t + 28, t + 29, t + 30] [] [0, 1, 5, 6, 7, 9] σ σ3 := gx_tr2 hf2 (gx_su hg3x (by intro x hx; simp at hx ⊢ <;> omega) (by intro x hx; simp at hx ⊢ <;> omega) (by intro x hx; simp at hx ⊢ <;> omega))
          refine ax_iinc (q := 70) (z' := ((i + 1 : Nat) : Int)) (L' := [some (am_R 66), some (am_I ((w : Nat) : Int)), some (am_I ((i + 1 : Nat) : Int)), some (am_I (kx_ tp n p))]) rfl rfl rfl rfl (am_we (by omega) (by omega) (by omega)) rfl ?_
          refine ax_goto (x := 12) rfl ?_
          have hln2 : (st ++ (s ++ s2 ++ [((3 : Int), sg2_ tp n p)])).length = (st ++ s ++ s2).length + 1 := by rw [List.length_append, List.length_append, List.length_append, List.length_append, List.length_append, List.length_singleton]; omega
          exact ih (i + 1) p2 u2 (s ++ s2 ++ [(3, sg2_ tp n p)]) _ σ3 (by omega) hf3 hC3 (by rw [show st ++ (s ++ s2 ++ [((3 : Int), sg2_ tp n p)]) = st ++ s ++ s2 ++ [((3 : Int), sg2_ tp n p)] from by simp only [List.append_assoc]]; exact hF3) (by omega) b4 hE hY

theorem cx_sum {tp : Nat → Int} {n t w D0 : Nat} (hD : 4 ≤ D0) {X : Nat → Nat → sp_E} (hX : CX_ tp n t 57 w D0 X) (hW : RW_ n 1 X) : CX_ tp n t 56 w (D0 + 1) (rdx_ tp n X 5) := by
  intro d σ p u st Q hd hC hF hl hu hE hY
  obtain ⟨d, rfl⟩ : ∃ e, d = e + 1 := ⟨d - 1, by omega⟩
  have ht := hC.ht
  unfold rdx_ at hE hY
  refine ev_in (m := 56) (c := k_X4_sum) (L := [some (am_R 66), some (am_I ((w : Nat) : Int)), none, none]) rfl rfl rfl rfl rfl rfl ?_
  refine ax_load (q := 1) rfl rfl rfl rfl rfl ?_
  refine ax_load (q := 2) rfl rfl rfl rfl rfl ?_
  refine ax_callv (q := 5) rfl rfl rfl rfl rfl rfl ?_
  refine hX d σ p u st _ (by omega) hC hF hl hu (fun e he σe hge g0 => ?_) (fun p2 u2 s2 he σ2 hg2 hC2 hF2 => ?_)
  · rw [he] at hE
    simp only [sbl_] at hE
    refine ax_if_ne (q := 8) (x := 10) rfl rfl (fun h => absurd h (by omega)) (fun h5 => ?_)
    refine ax_const (q := 9) (v := am_I 0) rfl rfl rfl ?_
    refine ax_ret (r := some (am_I 0)) rfl ⟨rfl, Or.inl rfl⟩ ?_
    exact hE _ rfl _ hge g0
  · obtain ⟨b1, b2, b3, b4, b5, b6⟩ := hW _ _ _ _ _ hC.pn hu he
    rw [he] at hE hY
    simp only [sbr_] at hE hY
    have hln : (st ++ s2).length = st.length + s2.length := List.length_append
    refine ax_if_ne (q := 8) (x := 10) rfl rfl (fun h5 => ?_) (fun h => absurd h (by omega))
    refine ax_const (q := 11) (v := am_I 0) rfl rfl rfl ?_
    refine ax_store (q := 12) (L' := [some (am_R 66), some (am_I ((w : Nat) : Int)), some (am_I 0), none]) rfl rfl rfl rfl rfl rfl ?_
    exact xl_sum (by omega) hD hX hW 30 0 p2 u2 s2 none σ2 (by omega) hg2 hC2 hF2 (by omega) b4 hE hY

theorem xl_both {d : Nat} {σ : am_S} {tp : Nat → Int} {n t w D0 : Nat} (hd : D0 ≤ d) (hD : 4 ≤ D0) {X : Nat → Nat → sp_E} (hX : CX_ tp n t 54 w D0 X) (hW : RW_ n 1 X) {st : List (Int × Int)} {Q : Option am_V → am_S → Prop} : ∀ (k i p u : Nat) (s : List (Int × Int)) (x3 : Option am_V) (σ' : am_S), i + k = 30 → gx_ [t + 28, t + 29, t + 30] [] [0, 1, 5, 6, 7, 9] σ σ' → RC_ tp n t p σ' → FO_ t u (st ++ s) σ' → (st ++ s).length + 1 ≤ 10 * u → u ≤ 30 → (∀ e, lp_ tp n X 2 k p u s = Sum.inl e → ∀ σ2, gx_ [t + 28, t + 29, t + 30] [] [0, 1, 5, 6, 7, 9] σ σ2 → FX_ tp n e σ2 → Q (some (am_I 0)) σ2) → (∀ p' u' s', lp_ tp n X 2 k p u s = Sum.inr (p', u', s') → ∀ σ2, gx_ [t + 28, t + 29, t + 30] [] [0, 1, 5, 6, 7, 9] σ σ2 → RC_ tp n t p' σ2 → FO_ t u' (st ++ s') σ2 → Q (some (am_I 1)) σ2) → aW d 1 k_X4_both Q 12 [some (am_R 66), some (am_I ((w : Nat) : Int)), some (am_I ((i : Nat) : Int))] [] σ' := by
  intro k
  induction k with
  | zero =>
    intro i p u s x3 σ' hi hf hC hF hl hu hE hY
    have ht := hC.ht
    have hX7 : PT_ t := ht
    refine ax_load (q := 13) rfl rfl rfl rfl rfl ?_
    refine ax_const (q := 15) (v := am_I 30) rfl rfl rfl ?_
    refine ax_icmp_ge (q := 18) (x := 60) rfl rfl (fun h15 => ?_) (fun h => absurd h (by omega))
    refine ax_const (q := 61) (v := am_I 1) rfl rfl rfl ?_
    refine ax_ret (r := some (am_I 1)) rfl ⟨rfl, Or.inr rfl⟩ ?_
    exact hY p u s rfl _ hf hC hF
  | succ k ih =>
    intro i p u s x3 σ' hi hf hC hF hl hu hE hY
    have ht := hC.ht
    have hX7 : PT_ t := ht
    refine ax_load (q := 13) rfl rfl rfl rfl rfl ?_
    refine ax_const (q := 15) (v := am_I 30) rfl rfl rfl ?_
    refine ax_icmp_ge (q := 18) (x := 60) rfl rfl (fun h => absurd h (by omega)) (fun h15 => ?_)
    refine ax_load (q := 19) rfl rfl rfl rfl rfl ?_
    refine ax_getf (q := 22) (v := am_I (kx_ tp n p)) rfl rfl (am_fg rfl hC.kx.2.1) ?_
    refine ax_const (q := 24) (v := am_I 16) rfl rfl rfl ?_
    refine ax_icmp_ne (q := 27) (x := 60) rfl rfl (fun h24 => ?_) (fun h24 => ?_)
    · refine ax_const (q := 61) (v := am_I 1) rfl rfl rfl ?_
      refine ax_ret (r := some (am_I 1)) rfl ⟨rfl, Or.inr rfl⟩ ?_
      exact hY p u s (if_neg (sgn2 h24)) _ hf hC hF
    · refine ax_load (q := 28) rfl rfl rfl rfl rfl ?_
      refine ax_callv (q := 31) rfl rfl rfl rfl rfl rfl ?_
      have hs := sgy2 (tp := tp) (n := n) (p := p) h24
      have hlp : lp_ tp n X 2 (k + 1) p u s = sb_ (X (nxp_ tp n p) u) fun r => lp_ tp n X 2 k r.1 r.2.1 (s ++ r.2.2 ++ [(3, sg2_ tp n p)]) := if_pos ⟨hs.1, hs.2.1⟩
      rw [hlp] at hE hY
      refine x_nextT (by omega) hC (sg_tk hs.1).2 (fun σ1 hg1 hC1 => ?_)
      have hf1 : gx_ [t + 28, t + 29, t + 30] [] [0, 1, 5, 6, 7, 9] σ σ1 := gx_tr2 hf (gx_su hg1 (by intro x hx; simp at hx ⊢ <;> omega) (by intro x hx; simp at hx ⊢ <;> omega) (by intro x hx; simp at hx ⊢ <;> omega))
      have hF1 := hF.fr hg1 ht (by intro a ha; cases ha)
      refine ax_load (q := 32) rfl rfl rfl rfl rfl ?_
      refine ax_load (q := 33) rfl rfl rfl rfl rfl ?_
      refine ax_callv (q := 36) rfl rfl rfl rfl rfl rfl ?_
      refine hX d σ1 (nxp_ tp n p) u (st ++ s) _ (by omega) hC1 hF1 (by omega) hu (fun e he σe hge g0 => ?_) (fun p2 u2 s2 he σ2 hg2 hC2 hF2 => ?_)
      · rw [he] at hE
        simp only [sbl_] at hE
        refine ax_if_ne (q := 39) (x := 41) rfl rfl (fun h => absurd h (by omega)) (fun h36 => ?_)
        refine ax_const (q := 40) (v := am_I 0) rfl rfl rfl ?_
        refine ax_ret (r := some (am_I 0)) rfl ⟨rfl, Or.inl rfl⟩ ?_
        exact hE _ rfl _ (gx_tr2 hf1 hge) g0
      · obtain ⟨b1, b2, b3, b4, b5, b6⟩ := hW _ _ _ _ _ hC1.pn hu he
        rw [he] at hE hY
        simp only [sbr_] at hE hY
        have hln : (st ++ s ++ s2).length = (st ++ s).length + s2.length := List.length_append
        have hf2 : gx_ [t + 28, t + 29, t + 30] [] [0, 1, 5, 6, 7, 9] σ σ2 := gx_tr2 hf1 hg2
        refine ax_if_ne (q := 39) (x := 41) rfl rfl (fun h36 => ?_) (fun h => absurd h (by omega))
        refine ax_load (q := 42) rfl rfl rfl rfl rfl ?_
        refine ax_getf (q := 45) (v := am_R t) rfl rfl (am_fgR rfl hC2.tn) ?_
        refine ax_getf (q := 48) (v := am_R (t + 28)) rfl rfl (xg7_9 hX7.ht) ?_
        refine ax_const (q := 50) (v := am_I 16) rfl rfl rfl ?_
        refine ax_const (q := 51) (v := am_I 0) rfl rfl rfl ?_
        refine ax_callv (q := 54) rfl rfl rfl rfl rfl (kd_28 hX7.ht) ?_
        refine x_fo_add (x := 3) (y := sg2_ tp n p) (by omega) ht hF2 (by omega) (by rw [← hs.2.2]; exact h24.symm) (fun e => absurd e (by decide)) (fun σ3 hg3 hF3 => ?_)
        have hg3x := gx_fr hg3 (by simp; omega)
        have hC3 := hC2.fr hg3x (by simp <;> omega) (by simp) (by simp) (by rw [hg3.2])
        have hf3 : gx_ [t + 28, t + 29, t + 30] [] [0, 1, 5, 6, 7, 9] σ σ3 := gx_tr2 hf2 (gx_su hg3x (by intro x hx; simp at hx ⊢ <;> omega) (by intro x hx; simp at hx ⊢ <;> omega) (by intro x hx; simp at hx ⊢ <;> omega))
        refine ax_iinc (q := 57) (z' := ((i + 1 : Nat) : Int)) (L' := [some (am_R 66), some (am_I ((w : Nat) : Int)), some (am_I ((i + 1 : Nat) : Int))]) rfl rfl rfl rfl (am_we (by omega) (by omega) (by omega)) rfl ?_
        refine ax_goto (x := 12) rfl ?_
        have hln2 : (st ++ (s ++ s2 ++ [((3 : Int), sg2_ tp n p)])).length = (st ++ s ++ s2).length + 1 := by rw [List.length_append, List.length_append, List.length_append, List.length_append, List.length_append, List.length_singleton]; omega
        exact ih (i + 1) p2 u2 (s ++ s2 ++ [(3, sg2_ tp n p)]) none σ3 (by omega) hf3 hC3 (by rw [show st ++ (s ++ s2 ++ [((3 : Int), sg2_ tp n p)]) = st ++ s ++ s2 ++ [((3 : Int), sg2_ tp n p)] from by simp only [List.append_assoc]]; exact hF3) (by omega) b4 hE hY

theorem cx_both {tp : Nat → Int} {n t w D0 : Nat} (hD : 4 ≤ D0) {X : Nat → Nat → sp_E} (hX : CX_ tp n t 54 w D0 X) (hW : RW_ n 1 X) : CX_ tp n t 53 w (D0 + 1) (rdx_ tp n X 2) := by
  intro d σ p u st Q hd hC hF hl hu hE hY
  obtain ⟨d, rfl⟩ : ∃ e, d = e + 1 := ⟨d - 1, by omega⟩
  have ht := hC.ht
  unfold rdx_ at hE hY
  refine ev_in (m := 53) (c := k_X4_both) (L := [some (am_R 66), some (am_I ((w : Nat) : Int)), none]) rfl rfl rfl rfl rfl rfl ?_
  refine ax_load (q := 1) rfl rfl rfl rfl rfl ?_
  refine ax_load (q := 2) rfl rfl rfl rfl rfl ?_
  refine ax_callv (q := 5) rfl rfl rfl rfl rfl rfl ?_
  refine hX d σ p u st _ (by omega) hC hF hl hu (fun e he σe hge g0 => ?_) (fun p2 u2 s2 he σ2 hg2 hC2 hF2 => ?_)
  · rw [he] at hE
    simp only [sbl_] at hE
    refine ax_if_ne (q := 8) (x := 10) rfl rfl (fun h => absurd h (by omega)) (fun h5 => ?_)
    refine ax_const (q := 9) (v := am_I 0) rfl rfl rfl ?_
    refine ax_ret (r := some (am_I 0)) rfl ⟨rfl, Or.inl rfl⟩ ?_
    exact hE _ rfl _ hge g0
  · obtain ⟨b1, b2, b3, b4, b5, b6⟩ := hW _ _ _ _ _ hC.pn hu he
    rw [he] at hE hY
    simp only [sbr_] at hE hY
    have hln : (st ++ s2).length = st.length + s2.length := List.length_append
    refine ax_if_ne (q := 8) (x := 10) rfl rfl (fun h5 => ?_) (fun h => absurd h (by omega))
    refine ax_const (q := 11) (v := am_I 0) rfl rfl rfl ?_
    refine ax_store (q := 12) (L' := [some (am_R 66), some (am_I ((w : Nat) : Int)), some (am_I 0)]) rfl rfl rfl rfl rfl rfl ?_
    exact xl_both (by omega) hD hX hW 30 0 p2 u2 s2 none σ2 (by omega) hg2 hC2 hF2 (by omega) b4 hE hY

theorem xl_either {d : Nat} {σ : am_S} {tp : Nat → Int} {n t w D0 : Nat} (hd : D0 ≤ d) (hD : 4 ≤ D0) {X : Nat → Nat → sp_E} (hX : CX_ tp n t 53 w D0 X) (hW : RW_ n 1 X) {st : List (Int × Int)} {Q : Option am_V → am_S → Prop} : ∀ (k i p u : Nat) (s : List (Int × Int)) (x3 : Option am_V) (σ' : am_S), i + k = 30 → gx_ [t + 28, t + 29, t + 30] [] [0, 1, 5, 6, 7, 9] σ σ' → RC_ tp n t p σ' → FO_ t u (st ++ s) σ' → (st ++ s).length + 1 ≤ 10 * u → u ≤ 30 → (∀ e, lp_ tp n X 1 k p u s = Sum.inl e → ∀ σ2, gx_ [t + 28, t + 29, t + 30] [] [0, 1, 5, 6, 7, 9] σ σ2 → FX_ tp n e σ2 → Q (some (am_I 0)) σ2) → (∀ p' u' s', lp_ tp n X 1 k p u s = Sum.inr (p', u', s') → ∀ σ2, gx_ [t + 28, t + 29, t + 30] [] [0, 1, 5, 6, 7, 9] σ σ2 → RC_ tp n t p' σ2 → FO_ t u' (st ++ s') σ2 → Q (some (am_I 1)) σ2) → aW d 1 k_X4_either Q 12 [some (am_R 66), some (am_I ((w : Nat) : Int)), some (am_I ((i : Nat) : Int))] [] σ' := by
  intro k
  induction k with
  | zero =>
    intro i p u s x3 σ' hi hf hC hF hl hu hE hY
    have ht := hC.ht
    have hX7 : PT_ t := ht
    refine ax_load (q := 13) rfl rfl rfl rfl rfl ?_
    refine ax_const (q := 15) (v := am_I 30) rfl rfl rfl ?_
    refine ax_icmp_ge (q := 18) (x := 60) rfl rfl (fun h15 => ?_) (fun h => absurd h (by omega))
    refine ax_const (q := 61) (v := am_I 1) rfl rfl rfl ?_
    refine ax_ret (r := some (am_I 1)) rfl ⟨rfl, Or.inr rfl⟩ ?_
    exact hY p u s rfl _ hf hC hF
  | succ k ih =>
    intro i p u s x3 σ' hi hf hC hF hl hu hE hY
    have ht := hC.ht
    have hX7 : PT_ t := ht
    refine ax_load (q := 13) rfl rfl rfl rfl rfl ?_
    refine ax_const (q := 15) (v := am_I 30) rfl rfl rfl ?_
    refine ax_icmp_ge (q := 18) (x := 60) rfl rfl (fun h => absurd h (by omega)) (fun h15 => ?_)
    refine ax_load (q := 19) rfl rfl rfl rfl rfl ?_
    refine ax_getf (q := 22) (v := am_I (kx_ tp n p)) rfl rfl (am_fg rfl hC.kx.2.1) ?_
    refine ax_const (q := 24) (v := am_I 15) rfl rfl rfl ?_
    refine ax_icmp_ne (q := 27) (x := 60) rfl rfl (fun h24 => ?_) (fun h24 => ?_)
    · refine ax_const (q := 61) (v := am_I 1) rfl rfl rfl ?_
      refine ax_ret (r := some (am_I 1)) rfl ⟨rfl, Or.inr rfl⟩ ?_
      exact hY p u s (if_neg (sgn1 h24)) _ hf hC hF
    · refine ax_load (q := 28) rfl rfl rfl rfl rfl ?_
      refine ax_callv (q := 31) rfl rfl rfl rfl rfl rfl ?_
      have hs := sgy1 (tp := tp) (n := n) (p := p) h24
      have hlp : lp_ tp n X 1 (k + 1) p u s = sb_ (X (nxp_ tp n p) u) fun r => lp_ tp n X 1 k r.1 r.2.1 (s ++ r.2.2 ++ [(3, sg2_ tp n p)]) := if_pos ⟨hs.1, hs.2.1⟩
      rw [hlp] at hE hY
      refine x_nextT (by omega) hC (sg_tk hs.1).2 (fun σ1 hg1 hC1 => ?_)
      have hf1 : gx_ [t + 28, t + 29, t + 30] [] [0, 1, 5, 6, 7, 9] σ σ1 := gx_tr2 hf (gx_su hg1 (by intro x hx; simp at hx ⊢ <;> omega) (by intro x hx; simp at hx ⊢ <;> omega) (by intro x hx; simp at hx ⊢ <;> omega))
      have hF1 := hF.fr hg1 ht (by intro a ha; cases ha)
      refine ax_load (q := 32) rfl rfl rfl rfl rfl ?_
      refine ax_load (q := 33) rfl rfl rfl rfl rfl ?_
      refine ax_callv (q := 36) rfl rfl rfl rfl rfl rfl ?_
      refine hX d σ1 (nxp_ tp n p) u (st ++ s) _ (by omega) hC1 hF1 (by omega) hu (fun e he σe hge g0 => ?_) (fun p2 u2 s2 he σ2 hg2 hC2 hF2 => ?_)
      · rw [he] at hE
        simp only [sbl_] at hE
        refine ax_if_ne (q := 39) (x := 41) rfl rfl (fun h => absurd h (by omega)) (fun h36 => ?_)
        refine ax_const (q := 40) (v := am_I 0) rfl rfl rfl ?_
        refine ax_ret (r := some (am_I 0)) rfl ⟨rfl, Or.inl rfl⟩ ?_
        exact hE _ rfl _ (gx_tr2 hf1 hge) g0
      · obtain ⟨b1, b2, b3, b4, b5, b6⟩ := hW _ _ _ _ _ hC1.pn hu he
        rw [he] at hE hY
        simp only [sbr_] at hE hY
        have hln : (st ++ s ++ s2).length = (st ++ s).length + s2.length := List.length_append
        have hf2 : gx_ [t + 28, t + 29, t + 30] [] [0, 1, 5, 6, 7, 9] σ σ2 := gx_tr2 hf1 hg2
        refine ax_if_ne (q := 39) (x := 41) rfl rfl (fun h36 => ?_) (fun h => absurd h (by omega))
        refine ax_load (q := 42) rfl rfl rfl rfl rfl ?_
        refine ax_getf (q := 45) (v := am_R t) rfl rfl (am_fgR rfl hC2.tn) ?_
        refine ax_getf (q := 48) (v := am_R (t + 28)) rfl rfl (xg7_9 hX7.ht) ?_
        refine ax_const (q := 50) (v := am_I 15) rfl rfl rfl ?_
        refine ax_const (q := 51) (v := am_I 0) rfl rfl rfl ?_
        refine ax_callv (q := 54) rfl rfl rfl rfl rfl (kd_28 hX7.ht) ?_
        refine x_fo_add (x := 3) (y := sg2_ tp n p) (by omega) ht hF2 (by omega) (by rw [← hs.2.2]; exact h24.symm) (fun e => absurd e (by decide)) (fun σ3 hg3 hF3 => ?_)
        have hg3x := gx_fr hg3 (by simp; omega)
        have hC3 := hC2.fr hg3x (by simp <;> omega) (by simp) (by simp) (by rw [hg3.2])
        have hf3 : gx_ [t + 28, t + 29, t + 30] [] [0, 1, 5, 6, 7, 9] σ σ3 := gx_tr2 hf2 (gx_su hg3x (by intro x hx; simp at hx ⊢ <;> omega) (by intro x hx; simp at hx ⊢ <;> omega) (by intro x hx; simp at hx ⊢ <;> omega))
        refine ax_iinc (q := 57) (z' := ((i + 1 : Nat) : Int)) (L' := [some (am_R 66), some (am_I ((w : Nat) : Int)), some (am_I ((i + 1 : Nat) : Int))]) rfl rfl rfl rfl (am_we (by omega) (by omega) (by omega)) rfl ?_
        refine ax_goto (x := 12) rfl ?_
        have hln2 : (st ++ (s ++ s2 ++ [((3 : Int), sg2_ tp n p)])).length = (st ++ s ++ s2).length + 1 := by rw [List.length_append, List.length_append, List.length_append, List.length_append, List.length_append, List.length_singleton]; omega
        exact ih (i + 1) p2 u2 (s ++ s2 ++ [(3, sg2_ tp n p)]) none σ3 (by omega) hf3 hC3 (by rw [show st ++ (s ++ s2 ++ [((3 : Int), sg2_ tp n p)]) = st ++ s ++ s2 ++ [((3 : Int), sg2_ tp n p)] from by simp only [List.append_assoc]]; exact hF3) (by omega) b4 hE hY

theorem cx_either {tp : Nat → Int} {n t w D0 : Nat} (hD : 4 ≤ D0) {X : Nat → Nat → sp_E} (hX : CX_ tp n t 53 w D0 X) (hW : RW_ n 1 X) : CX_ tp n t 52 w (D0 + 1) (rdx_ tp n X 1) := by
  intro d σ p u st Q hd hC hF hl hu hE hY
  obtain ⟨d, rfl⟩ : ∃ e, d = e + 1 := ⟨d - 1, by omega⟩
  have ht := hC.ht
  unfold rdx_ at hE hY
  refine ev_in (m := 52) (c := k_X4_either) (L := [some (am_R 66), some (am_I ((w : Nat) : Int)), none]) rfl rfl rfl rfl rfl rfl ?_
  refine ax_load (q := 1) rfl rfl rfl rfl rfl ?_
  refine ax_load (q := 2) rfl rfl rfl rfl rfl ?_
  refine ax_callv (q := 5) rfl rfl rfl rfl rfl rfl ?_
  refine hX d σ p u st _ (by omega) hC hF hl hu (fun e he σe hge g0 => ?_) (fun p2 u2 s2 he σ2 hg2 hC2 hF2 => ?_)
  · rw [he] at hE
    simp only [sbl_] at hE
    refine ax_if_ne (q := 8) (x := 10) rfl rfl (fun h => absurd h (by omega)) (fun h5 => ?_)
    refine ax_const (q := 9) (v := am_I 0) rfl rfl rfl ?_
    refine ax_ret (r := some (am_I 0)) rfl ⟨rfl, Or.inl rfl⟩ ?_
    exact hE _ rfl _ hge g0
  · obtain ⟨b1, b2, b3, b4, b5, b6⟩ := hW _ _ _ _ _ hC.pn hu he
    rw [he] at hE hY
    simp only [sbr_] at hE hY
    have hln : (st ++ s2).length = st.length + s2.length := List.length_append
    refine ax_if_ne (q := 8) (x := 10) rfl rfl (fun h5 => ?_) (fun h => absurd h (by omega))
    refine ax_const (q := 11) (v := am_I 0) rfl rfl rfl ?_
    refine ax_store (q := 12) (L' := [some (am_R 66), some (am_I ((w : Nat) : Int)), some (am_I 0)]) rfl rfl rfl rfl rfl rfl ?_
    exact xl_either (by omega) hD hX hW 30 0 p2 u2 s2 none σ2 (by omega) hg2 hC2 hF2 (by omega) b4 hE hY

