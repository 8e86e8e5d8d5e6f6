theorem as2_c (tp : Nat → Int) (n p : Nat) : (as2_ tp n p = 0 ∧ kx_ tp n p = 18) ∨ (as2_ tp n p = 1 ∧ kx_ tp n p = 10) ∨ (as2_ tp n p = 2 ∧ kx_ tp n p = 19) ∨ (as2_ tp n p = 3 ∧ kx_ tp n p = 20) ∨ (as2_ tp n p = -1 ∧ kx_ tp n p ≠ 18 ∧ kx_ tp n p ≠ 10 ∧ kx_ tp n p ≠ 19 ∧ kx_ tp n p ≠ 20) := by
  have k18 := kx_w (tp := tp) (n := n) (p := p) (i := 18) (by omega)
  have k10 := kx_w (tp := tp) (n := n) (p := p) (i := 10) (by omega)
  have k19 := kx_w (tp := tp) (n := n) (p := p) (i := 19) (by omega)
  have k20 := kx_w (tp := tp) (n := n) (p := p) (i := 20) (by omega)
  unfold as2_ as_
  by_cases h1 : tks_ tp n p = 1
  · rw [if_neg (fun e => e h1)]
    by_cases a : tkw_ tp n p = 465558725996
    · rw [if_pos a]
      exact Or.inl ⟨rfl, k18.mpr ⟨h1, a⟩⟩
    rw [if_neg a]
    by_cases b : tkw_ tp n p = 6383461
    · rw [if_pos b]
      exact Or.inr (Or.inl ⟨rfl, k10.mpr ⟨h1, b⟩⟩)
    rw [if_neg b]
    by_cases c : tkw_ tp n p = 2036687218
    · rw [if_pos c]
      exact Or.inr (Or.inr (Or.inl ⟨rfl, k19.mpr ⟨h1, c⟩⟩))
    rw [if_neg c]
    by_cases e : tkw_ tp n p = 512852845416
    · rw [if_pos e]
      exact Or.inr (Or.inr (Or.inr (Or.inl ⟨rfl, k20.mpr ⟨h1, e⟩⟩)))
    rw [if_neg e]
    exact Or.inr (Or.inr (Or.inr (Or.inr ⟨rfl, fun q => a (k18.mp q).2, fun q => b (k10.mp q).2, fun q => c (k19.mp q).2, fun q => e (k20.mp q).2⟩)))
  · rw [if_pos h1]
    exact Or.inr (Or.inr (Or.inr (Or.inr ⟨rfl, fun q => h1 (k18.mp q).1, fun q => h1 (k10.mp q).1, fun q => h1 (k19.mp q).1, fun q => h1 (k20.mp q).1⟩)))
def eix_ (tp : Nat → Int) (n : Nat) : Nat → Option (Nat → Nat → sp_E)
  | 0 => none
  | m + 1 => some (rdl_ tp n m).2
theorem rdl_n {tp : Nat → Int} {n m p u : Nat} (h : nt_ tp n p = false) : (rdl_ tp n m).1 p u = rdr_ tp n (eix_ tp n m) p u := by
  cases m with
  | zero => exact if_neg (by rw [h]; decide)
  | succ m => exact if_neg (by rw [h]; decide)
theorem rdl_z {tp : Nat → Int} {n p u : Nat} (h : nt_ tp n p = true) : (rdl_ tp n 0).1 p u = Sum.inl (2, p) := if_pos h
theorem rdl_s {tp : Nat → Int} {n m p u : Nat} (h : nt_ tp n p = true) : (rdl_ tp n (m + 1)).1 p u = sb_ ((rdl_ tp n m).1 (nxp_ tp n p) u) fun r => Sum.inr (r.1, r.2.1, r.2.2 ++ [((2 : Int), (0 : Int))]) := if_pos h
theorem nt_k {tp : Nat → Int} {n p : Nat} : nt_ tp n p = true ↔ kx_ tp n p = 17 := by
  unfold nt_
  rw [decide_eq_true_eq]
  exact (kx_w (i := 17) (by omega)).symm
theorem nt_f {tp : Nat → Int} {n p : Nat} (h : ¬ kx_ tp n p = 17) : nt_ tp n p = false := by
  cases e : nt_ tp n p with
  | false => rfl
  | true => exact absurd (nt_k.mp e) h

theorem cx_related {tp : Nat → Int} {n t w D0 : Nat} (hD : 4 ≤ D0) {ei : Option (Nat → Nat → sp_E)} (hX : CX_ tp n t 56 w D0 (rds_ tp n ei)) (hW : RW_ n 1 (rds_ tp n ei)) : CX_ tp n t 55 w (D0 + 1) (rdr_ tp n ei) := by
  intro d σ p u st Q hd hC hF hl hu hE hY
  obtain ⟨d, rfl⟩ : ∃ e, d = e + 1 := ⟨d - 1, by omega⟩
  have ht := hC.ht
  have hX7 : PT_ t := ht
  unfold rdr_ at hE hY
  refine ev_in (m := 55) (c := k_X4_related) (L := [some (am_R 66), some (am_I ((w : Nat) : Int)), none]) rfl rfl rfl rfl rfl rfl ?_
  refine ax_load (q := 1) rfl rfl rfl rfl rfl ?_
  refine ax_load (q := 2) rfl rfl rfl rfl rfl ?_
  refine ax_callv (q := 5) rfl rfl rfl rfl rfl rfl ?_
  refine hX d σ p u st _ (by omega) hC hF hl hu (fun e he σe hge g0 => ?_) (fun p2 u2 s2 he σ2 hg2 hC2 hF2 => ?_)
  · rw [he] at hE
    simp only [sbl_] at hE
    have hfe := hge
    refine ax_if_ne (q := 8) (x := 10) rfl rfl (fun h => absurd h (by omega)) (fun h5 => ?_)
    refine ax_const (q := 9) (v := am_I 0) rfl rfl rfl ?_
    refine ax_ret (r := some (am_I 0)) rfl ⟨rfl, Or.inl rfl⟩ ?_
    exact hE _ rfl _ hfe g0
  · obtain ⟨b1, b2, b3, b4, b5, b6⟩ := hW _ _ _ _ _ hC.pn hu he
    rw [he] at hE hY
    simp only [sbr_] at hE hY
    have hln : (st ++ s2).length = st.length + s2.length := List.length_append
    refine ax_if_ne (q := 8) (x := 10) rfl rfl (fun h5 => ?_) (fun h => absurd h (by omega))
    refine ax_load (q := 11) rfl rfl rfl rfl rfl ?_
    refine ax_getf (q := 14) (v := am_I (kx_ tp n p2)) rfl rfl (am_fg rfl hC2.kx.2.1) ?_
    refine ax_const (q := 16) (v := am_I 60) rfl rfl rfl ?_
    refine ax_icmp_eq (q := 19) (x := 37) rfl rfl (fun h16 => ?_) (fun h16 => ?_)
    · refine ax_load (q := 38) rfl rfl rfl rfl rfl ?_
      refine ax_getf (q := 41) (v := am_I (kx_ tp n p2)) rfl rfl (am_fg rfl hC2.kx.2.1) ?_
      refine ax_store (q := 42) (L' := [some (am_R 66), some (am_I ((w : Nat) : Int)), some (am_I (kx_ tp n p2))]) rfl rfl rfl rfl rfl rfl ?_
      refine ax_load (q := 43) rfl rfl rfl rfl rfl ?_
      refine ax_callv (q := 46) rfl rfl rfl rfl rfl rfl ?_
      have hs := sgy4 (tp := tp) (n := n) (p := p2) (by omega)
      rw [if_pos ⟨hs.1, hs.2.1⟩] at hE hY
      refine x_nextT (by omega) hC2 (sg_tk hs.1).2 (fun σ3 hg3 hC3 => ?_)
      have hf3 : gx_ [t + 28, t + 29, t + 30] [] [0, 1, 5, 6, 7, 9] σ σ3 := gx_tr2 hg2 (gx_su hg3 (by intro x hx; simp at hx ⊢ <;> omega) (by intro x hx; simp at hx ⊢ <;> omega) (by intro x hx; simp at hx ⊢ <;> omega))
      have hF3 := hF2.fr hg3 ht (by intro a ha; cases ha)
      refine ax_load (q := 47) rfl rfl rfl rfl rfl ?_
      refine ax_load (q := 48) rfl rfl rfl rfl rfl ?_
      refine ax_callv (q := 51) rfl rfl rfl rfl rfl rfl ?_
      refine hX d σ3 (nxp_ tp n p2) u2 (st ++ s2) _ (by omega) hC3 hF3 (by omega) b4 (fun e he σe hge g0 => ?_) (fun p4 u4 s4 he σ4 hg4 hC4 hF4 => ?_)
      · rw [he] at hE
        simp only [sbl_] at hE
        have hfe := gx_tr2 hf3 hge
        refine ax_if_ne (q := 54) (x := 56) rfl rfl (fun h => absurd h (by omega)) (fun h51 => ?_)
        refine ax_const (q := 55) (v := am_I 0) rfl rfl rfl ?_
        refine ax_ret (r := some (am_I 0)) rfl ⟨rfl, Or.inl rfl⟩ ?_
        exact hE _ rfl _ hfe g0
      · obtain ⟨a1, a2, a3, a4, a5, a6⟩ := hW _ _ _ _ _ hC3.pn b4 he
        rw [he] at hE hY
        simp only [sbr_] at hE hY
        have hln2 : (st ++ s2 ++ s4).length = (st ++ s2).length + s4.length := List.length_append
        have hf4 := gx_tr2 hf3 hg4
        refine ax_if_ne (q := 54) (x := 56) rfl rfl (fun h51 => ?_) (fun h => absurd h (by omega))
        refine ax_load (q := 57) rfl rfl rfl rfl rfl ?_
        refine ax_getf (q := 60) (v := am_R t) rfl rfl (am_fgR rfl hC4.tn) ?_
        refine ax_getf (q := 63) (v := am_R (t + 28)) rfl rfl (xg7_9 hX7.ht) ?_
        refine ax_load (q := 64) rfl rfl rfl rfl rfl ?_
        refine ax_const (q := 65) (v := am_I 0) rfl rfl rfl ?_
        refine ax_callv (q := 68) rfl rfl rfl rfl rfl (kd_28 hX7.ht) ?_
        refine x_fo_add (x := 3) (y := sg2_ tp n p2) (by omega) ht hF4 (by omega) hs.2.2 (fun e => absurd e (by decide)) (fun σ5 hg5 hF5 => ?_)
        have hg5x := gx_fr hg5 (by simp; omega)
        have hC5 := hC4.fr hg5x (by simp <;> omega) (by simp) (by simp) (by rw [hg5.2])
        have hf5 : gx_ [t + 28, t + 29, t + 30] [] [0, 1, 5, 6, 7, 9] σ σ5 := gx_tr2 hf4 (gx_su hg5x (by intro x hx; simp at hx ⊢ <;> omega) (by intro x hx; simp at hx ⊢ <;> omega) (by intro x hx; simp at hx ⊢ <;> omega))
        refine ax_const (q := 69) (v := am_I 1) rfl rfl rfl ?_
        refine ax_ret (r := some (am_I 1)) rfl ⟨rfl, Or.inr rfl⟩ ?_
        exact hY _ _ _ rfl _ hf5 hC5 (by rw [show st ++ (s2 ++ s4 ++ [((3 : Int), sg2_ tp n p2)]) = st ++ s2 ++ s4 ++ [((3 : Int), sg2_ tp n p2)] from by simp only [List.append_assoc]]; exact hF5)
    · refine ax_load (q := 20) rfl rfl rfl rfl rfl ?_
      refine ax_getf (q := 23) (v := am_I (kx_ tp n p2)) rfl rfl (am_fg rfl hC2.kx.2.1) ?_
      refine ax_const (q := 25) (v := am_I 62) rfl rfl rfl ?_
      refine ax_icmp_eq (q := 28) (x := 37) rfl rfl (fun h25 => ?_) (fun h25 => ?_)
      · refine ax_load (q := 38) rfl rfl rfl rfl rfl ?_
        refine ax_getf (q := 41) (v := am_I (kx_ tp n p2)) rfl rfl (am_fg rfl hC2.kx.2.1) ?_
        refine ax_store (q := 42) (L' := [some (am_R 66), some (am_I ((w : Nat) : Int)), some (am_I (kx_ tp n p2))]) rfl rfl rfl rfl rfl rfl ?_
        refine ax_load (q := 43) rfl rfl rfl rfl rfl ?_
        refine ax_callv (q := 46) rfl rfl rfl rfl rfl rfl ?_
        have hs := sgy4 (tp := tp) (n := n) (p := p2) (by omega)
        rw [if_pos ⟨hs.1, hs.2.1⟩] at hE hY
        refine x_nextT (by omega) hC2 (sg_tk hs.1).2 (fun σ3 hg3 hC3 => ?_)
        have hf3 : gx_ [t + 28, t + 29, t + 30] [] [0, 1, 5, 6, 7, 9] σ σ3 := gx_tr2 hg2 (gx_su hg3 (by intro x hx; simp at hx ⊢ <;> omega) (by intro x hx; simp at hx ⊢ <;> omega) (by intro x hx; simp at hx ⊢ <;> omega))
        have hF3 := hF2.fr hg3 ht (by intro a ha; cases ha)
        refine ax_load (q := 47) rfl rfl rfl rfl rfl ?_
        refine ax_load (q := 48) rfl rfl rfl rfl rfl ?_
        refine ax_callv (q := 51) rfl rfl rfl rfl rfl rfl ?_
        refine hX d σ3 (nxp_ tp n p2) u2 (st ++ s2) _ (by omega) hC3 hF3 (by omega) b4 (fun e he σe hge g0 => ?_) (fun p4 u4 s4 he σ4 hg4 hC4 hF4 => ?_)
        · rw [he] at hE
          simp only [sbl_] at hE
          have hfe := gx_tr2 hf3 hge
          refine ax_if_ne (q := 54) (x := 56) rfl rfl (fun h => absurd h (by omega)) (fun h51 => ?_)
          refine ax_const (q := 55) (v := am_I 0) rfl rfl rfl ?_
          refine ax_ret (r := some (am_I 0)) rfl ⟨rfl, Or.inl rfl⟩ ?_
          exact hE _ rfl _ hfe g0
        · obtain ⟨a1, a2, a3, a4, a5, a6⟩ := hW _ _ _ _ _ hC3.pn b4 he
          rw [he] at hE hY
          simp only [sbr_] at hE hY
          have hln2 : (st ++ s2 ++ s4).length = (st ++ s2).length + s4.length := List.length_append
          have hf4 := gx_tr2 hf3 hg4
          refine ax_if_ne (q := 54) (x := 56) rfl rfl (fun h51 => ?_) (fun h => absurd h (by omega))
          refine ax_load (q := 57) rfl rfl rfl rfl rfl ?_
          refine ax_getf (q := 60) (v := am_R t) rfl rfl (am_fgR rfl hC4.tn) ?_
          refine ax_getf (q := 63) (v := am_R (t + 28)) rfl rfl (xg7_9 hX7.ht) ?_
          refine ax_load (q := 64) rfl rfl rfl rfl rfl ?_
          refine ax_const (q := 65) (v := am_I 0) rfl rfl rfl ?_
          refine ax_callv (q := 68) rfl rfl rfl rfl rfl (kd_28 hX7.ht) ?_
          refine x_fo_add (x := 3) (y := sg2_ tp n p2) (by omega) ht hF4 (by omega) hs.2.2 (fun e => absurd e (by decide)) (fun σ5 hg5 hF5 => ?_)
          have hg5x := gx_fr hg5 (by simp; omega)
          have hC5 := hC4.fr hg5x (by simp <;> omega) (by simp) (by simp) (by rw [hg5.2])
          have hf5 : gx_ [t + 28, t + 29, t + 30] [] [0, 1, 5, 6, 7, 9] σ σ5 := gx_tr2 hf4 (gx_su hg5x (by intro x hx; simp at hx ⊢ <;> omega) (by intro x hx; simp at hx ⊢ <;> omega) (by intro x hx; simp at hx ⊢ <;> omega))
          refine ax_const (q := 69) (v := am_I 1) rfl rfl rfl ?_
          refine ax_ret (r := some (am_I 1)) rfl ⟨rfl, Or.inr rfl⟩ ?_
          exact hY _ _ _ rfl _ hf5 hC5 (by rw [show st ++ (s2 ++ s4 ++ [((3 : Int), sg2_ tp n p2)]) = st ++ s2 ++ s4 ++ [((3 : Int), sg2_ tp n p2)] from by simp only [List.append_assoc]]; exact hF5)
      · refine ax_load (q := 29) rfl rfl rfl rfl rfl ?_
        refine ax_getf (q := 32) (v := am_I (kx_ tp n p2)) rfl rfl (am_fg rfl hC2.kx.2.1) ?_
        refine ax_const (q := 34) (v := am_I 61) rfl rfl rfl ?_
        refine ax_icmp_ne (q := 37) (x := 68) rfl rfl (fun h34 => ?_) (fun h34 => ?_)
        · refine ax_const (q := 69) (v := am_I 1) rfl rfl rfl ?_
          refine ax_ret (r := some (am_I 1)) rfl ⟨rfl, Or.inr rfl⟩ ?_
          exact hY p2 u2 s2 (if_neg (sgn4 (by omega))) _ hg2 hC2 hF2
        · refine ax_load (q := 38) rfl rfl rfl rfl rfl ?_
          refine ax_getf (q := 41) (v := am_I (kx_ tp n p2)) rfl rfl (am_fg rfl hC2.kx.2.1) ?_
          refine ax_store (q := 42) (L' := [some (am_R 66), some (am_I ((w : Nat) : Int)), some (am_I (kx_ tp n p2))]) rfl rfl rfl rfl rfl rfl ?_
          refine ax_load (q := 43) rfl rfl rfl rfl rfl ?_
          refine ax_callv (q := 46) rfl rfl rfl rfl rfl rfl ?_
          have hs := sgy4 (tp := tp) (n := n) (p := p2) (by omega)
          rw [if_pos ⟨hs.1, hs.2.1⟩] at hE hY
          refine x_nextT (by omega) hC2 (sg_tk hs.1).2 (fun σ3 hg3 hC3 => ?_)
          have hf3 : gx_ [t + 28, t + 29, t + 30] [] [0, 1, 5, 6, 7, 9] σ σ3 := gx_tr2 hg2 (gx_su hg3 (by intro x hx; simp at hx ⊢ <;> omega) (by intro x hx; simp at hx ⊢ <;> omega) (by intro x hx; simp at hx ⊢ <;> omega))
          have hF3 := hF2.fr hg3 ht (by intro a ha; cases ha)
          refine ax_load (q := 47) rfl rfl rfl rfl rfl ?_
          refine ax_load (q := 48) rfl rfl rfl rfl rfl ?_
          refine ax_callv (q := 51) rfl rfl rfl rfl rfl rfl ?_
          refine hX d σ3 (nxp_ tp n p2) u2 (st ++ s2) _ (by omega) hC3 hF3 (by omega) b4 (fun e he σe hge g0 => ?_) (fun p4 u4 s4 he σ4 hg4 hC4 hF4 => ?_)
          · rw [he] at hE
            simp only [sbl_] at hE
            have hfe := gx_tr2 hf3 hge
            refine ax_if_ne (q := 54) (x := 56) rfl rfl (fun h => absurd h (by omega)) (fun h51 => ?_)
            refine ax_const (q := 55) (v := am_I 0) rfl rfl rfl ?_
            refine ax_ret (r := some (am_I 0)) rfl ⟨rfl, Or.inl rfl⟩ ?_
            exact hE _ rfl _ hfe g0
          · obtain ⟨a1, a2, a3, a4, a5, a6⟩ := hW _ _ _ _ _ hC3.pn b4 he
            rw [he] at hE hY
            simp only [sbr_] at hE hY
            have hln2 : (st ++ s2 ++ s4).length = (st ++ s2).length + s4.length := List.length_append
            have hf4 := gx_tr2 hf3 hg4
            refine ax_if_ne (q := 54) (x := 56) rfl rfl (fun h51 => ?_) (fun h => absurd h (by omega))
            refine ax_load (q := 57) rfl rfl rfl rfl rfl ?_
            refine ax_getf (q := 60) (v := am_R t) rfl rfl (am_fgR rfl hC4.tn) ?_
            refine ax_getf (q := 63) (v := am_R (t + 28)) rfl rfl (xg7_9 hX7.ht) ?_
            refine ax_load (q := 64) rfl rfl rfl rfl rfl ?_
            refine ax_const (q := 65) (v := am_I 0) rfl rfl rfl ?_
            refine ax_callv (q := 68) rfl rfl rfl rfl rfl (kd_28 hX7.ht) ?_
            refine x_fo_add (x := 3) (y := sg2_ tp n p2) (by omega) ht hF4 (by omega) hs.2.2 (fun e => absurd e (by decide)) (fun σ5 hg5 hF5 => ?_)
            have hg5x := gx_fr hg5 (by simp; omega)
            have hC5 := hC4.fr hg5x (by simp <;> omega) (by simp) (by simp) (by rw [hg5.2])
            have hf5 : gx_ [t + 28, t + 29, t + 30] [] [0, 1, 5, 6, 7, 9] σ σ5 := gx_tr2 hf4 (gx_su hg5x (by intro x hx; simp at hx ⊢ <;> omega) (by intro x hx; simp at hx ⊢ <;> omega) (by intro x hx; simp at hx ⊢ <;> omega))
            refine ax_const (q := 69) (v := am_I 1) rfl rfl rfl ?_
            refine ax_ret (r := some (am_I 1)) rfl ⟨rfl, Or.inr rfl⟩ ?_
            exact hY _ _ _ rfl _ hf5 hC5 (by rw [show st ++ (s2 ++ s4 ++ [((3 : Int), sg2_ tp n p2)]) = st ++ s2 ++ s4 ++ [((3 : Int), sg2_ tp n p2)] from by simp only [List.append_assoc]]; exact hF5)

theorem xl_one1 {d : Nat} (hd : 4 ≤ d) {σ : am_S} {tp : Nat → Int} {n t w i p u : Nat} {Q : Option am_V → am_S → Prop} : ∀ (k j : Nat) (l : List (Int × Int)) (σ' : am_S), j + k = i → i ≤ 7 → gx_ [t + 28, t + 29, t + 30] [] [0, 1, 5, 6, 7, 9] σ σ' → RC_ tp n t p σ' → FO_ t u l σ' → l.length + k < 300 → (∀ σ2, gx_ [t + 28, t + 29, t + 30] [] [0, 1, 5, 6, 7, 9] σ σ2 → RC_ tp n t p σ2 → FO_ t u (l ++ List.replicate k ((2 : Int), (0 : Int))) σ2 → Q (some (am_I 1)) σ2) → aW d 1 k_X4_one Q 54 [some (am_R 66), some (am_I ((w : Nat) : Int)), some (am_I ((i : Nat) : Int)), some (am_I ((j : Nat) : Int))] [] σ' := by
  intro k
  induction k with
  | zero =>
    intro j l σ' hj hi7 hf hC hF hl hQ
    have ht := hC.ht
    have hX7 : PT_ t := ht
    refine ax_load (q := 55) rfl rfl rfl rfl rfl ?_
    refine ax_load (q := 56) rfl rfl rfl rfl rfl ?_
    refine ax_icmp_ge (q := 59) (x := 78) rfl rfl (fun h56 => ?_) (fun h => absurd h (by omega))
    refine ax_const (q := 79) (v := am_I 1) rfl rfl rfl ?_
    refine ax_ret (r := some (am_I 1)) rfl ⟨rfl, Or.inr rfl⟩ ?_
    exact hQ _ hf hC (by rw [List.replicate_zero, List.append_nil]; exact hF)
  | succ k ih =>
    intro j l σ' hj hi7 hf hC hF hl hQ
    have ht := hC.ht
    have hX7 : PT_ t := ht
    refine ax_load (q := 55) rfl rfl rfl rfl rfl ?_
    refine ax_load (q := 56) rfl rfl rfl rfl rfl ?_
    refine ax_icmp_ge (q := 59) (x := 78) rfl rfl (fun h => absurd h (by omega)) (fun h56 => ?_)
    refine ax_load (q := 60) rfl rfl rfl rfl rfl ?_
    refine ax_getf (q := 63) (v := am_R t) rfl rfl (am_fgR rfl hC.tn) ?_
    refine ax_getf (q := 66) (v := am_R (t + 28)) rfl rfl (xg7_9 hX7.ht) ?_
    refine ax_const (q := 68) (v := am_I 17) rfl rfl rfl ?_
    refine ax_const (q := 69) (v := am_I 0) rfl rfl rfl ?_
    refine ax_callv (q := 72) rfl rfl rfl rfl rfl (kd_28 hX7.ht) ?_
    refine x_fo_add (x := 2) (y := 0) (by omega) ht hF (by omega) rfl (fun e => absurd e (by decide)) (fun σ3 hg3 hF3 => ?_)
    have hg3x := gx_fr hg3 (by simp; omega)
    have hC3 := hC.fr hg3x (by simp <;> omega) (by simp) (by simp) (by rw [hg3.2])
    have hf3 : gx_ [t + 28, t + 29, t + 30] [] [0, 1, 5, 6, 7, 9] σ σ3 := gx_tr2 hf (gx_su hg3x (by intro x hx; simp at hx ⊢ <;> omega) (by intro x hx; simp at hx ⊢ <;> omega) (by intro x hx; simp at hx ⊢ <;> omega))
    refine ax_iinc (q := 75) (z' := ((j + 1 : Nat) : Int)) (L' := [some (am_R 66), some (am_I ((w : Nat) : Int)), some (am_I ((i : Nat) : Int)), some (am_I ((j + 1 : Nat) : Int))]) rfl rfl rfl rfl (am_we (by omega) (by omega) (by omega)) rfl ?_
    refine ax_goto (x := 54) rfl ?_
    exact ih (j + 1) (l ++ [((2 : Int), (0 : Int))]) σ3 (by omega) hi7 hf3 hC3 hF3 (by rw [List.length_append, List.length_singleton]; omega) (fun σ2 hf2 hC2 hF2 => hQ σ2 hf2 hC2 (by rw [List.replicate_succ, show l ++ (((2 : Int), (0 : Int)) :: List.replicate k ((2 : Int), (0 : Int))) = l ++ [((2 : Int), (0 : Int))] ++ List.replicate k ((2 : Int), (0 : Int)) from by rw [List.append_assoc]; rfl]; exact hF2))

theorem xl_one0 {d : Nat} {σ : am_S} {tp : Nat → Int} {n t w u D0 : Nat} (hd : D0 ≤ d) (hD : 4 ≤ D0) (hR : ∀ m', m' ≤ 7 - w → CX_ tp n t 55 (7 - m') D0 (rdr_ tp n (eix_ tp n m'))) (hW : ∀ m', m' ≤ 7 → RW_ n 8 (rdr_ tp n (eix_ tp n m'))) {st : List (Int × Int)} (hl : st.length ≤ 10 * u) (hu : u ≤ 30) {Q : Option am_V → am_S → Prop} : ∀ (m i p : Nat) (x3 : Option am_V) (σ' : am_S), i + m = 7 → w ≤ i → gx_ [t + 28, t + 29, t + 30] [] [0, 1, 5, 6, 7, 9] σ σ' → RC_ tp n t p σ' → FO_ t u st σ' → (∀ e, (rdl_ tp n m).1 p u = Sum.inl e → ∀ σ2, gx_ [t + 28, t + 29, t + 30] [] [0, 1, 5, 6, 7, 9] σ σ2 → FX_ tp n e σ2 → Q (some (am_I 0)) σ2) → (∀ p' u' s', (rdl_ tp n m).1 p u = Sum.inr (p', u', s') → ∀ σ2, gx_ [t + 28, t + 29, t + 30] [] [0, 1, 5, 6, 7, 9] σ σ2 → RC_ tp n t p' σ2 → FO_ t u' (st ++ s' ++ List.replicate (i - w) ((2 : Int), (0 : Int))) σ2 → Q (some (am_I 1)) σ2) → aW d 1 k_X4_one Q 2 [some (am_R 66), some (am_I ((w : Nat) : Int)), some (am_I ((i : Nat) : Int)), x3] [] σ' := by
  intro m
  induction m with
  | zero =>
    intro i p x3 σ' hi hwi hf hC hF hE hY
    have ht := hC.ht
    have hX7 : PT_ t := ht
    refine ax_load (q := 3) rfl rfl rfl rfl rfl ?_
    refine ax_getf (q := 6) (v := am_I (kx_ tp n p)) rfl rfl (am_fg rfl hC.kx.2.1) ?_
    refine ax_const (q := 8) (v := am_I 17) rfl rfl rfl ?_
    refine ax_icmp_ne (q := 11) (x := 27) rfl rfl (fun h8 => ?_) (fun h8 => ?_)
    · refine ax_load (q := 28) rfl rfl rfl rfl rfl ?_
      refine ax_getf (q := 31) (v := am_I (kx_ tp n p)) rfl rfl (am_fg rfl hC.kx.2.1) ?_
      refine ax_const (q := 33) (v := am_I 17) rfl rfl rfl ?_
      refine ax_icmp_ne (q := 36) (x := 42) rfl rfl (fun h33 => ?_) (fun h => absurd h (by omega))
      refine ax_load (q := 43) rfl rfl rfl rfl rfl ?_
      refine ax_load (q := 44) rfl rfl rfl rfl rfl ?_
      refine ax_callv (q := 47) rfl rfl rfl rfl rfl rfl ?_
      rw [rdl_n (nt_f h8)] at hE hY
      have hRm := hR 0 (by omega)
      rw [show 7 - 0 = i by omega] at hRm
      refine hRm d σ' p u st _ (by omega) hC hF hl hu (fun e he σe hge g0 => ?_) (fun p2 u2 s2 he σ2 hg2 hC2 hF2 => ?_)
      · refine ax_if_ne (q := 50) (x := 52) rfl rfl (fun h => absurd h (by omega)) (fun h47 => ?_)
        refine ax_const (q := 51) (v := am_I 0) rfl rfl rfl ?_
        refine ax_ret (r := some (am_I 0)) rfl ⟨rfl, Or.inl rfl⟩ ?_
        exact hE _ he _ (gx_tr2 hf hge) g0
      · obtain ⟨b1, b2, b3, b4, b5, b6⟩ := hW 0 (by omega) _ _ _ _ _ hC.pn hu he
        have hln : (st ++ s2).length = st.length + s2.length := List.length_append
        have hf2 := gx_tr2 hf hg2
        refine ax_if_ne (q := 50) (x := 52) rfl rfl (fun h47 => ?_) (fun h => absurd h (by omega))
        refine ax_load (q := 53) rfl rfl rfl rfl rfl ?_
        refine ax_store (q := 54) (L' := [some (am_R 66), some (am_I ((w : Nat) : Int)), some (am_I ((i : Nat) : Int)), some (am_I ((w : Nat) : Int))]) rfl rfl rfl rfl rfl rfl ?_
        exact xl_one1 (by omega) (i - w) w (st ++ s2) σ2 (by omega) (by omega) hf2 hC2 hF2 (by omega) (fun σ3 hg3 hC3 hF3 => hY p2 u2 s2 he σ3 hg3 hC3 hF3)
    · refine ax_load (q := 12) rfl rfl rfl rfl rfl ?_
      refine ax_const (q := 14) (v := am_I 6) rfl rfl rfl ?_
      refine ax_icmp_gt (q := 17) (x := 27) rfl rfl (fun h14 => ?_) (fun h => absurd h (by omega))
      refine ax_load (q := 28) rfl rfl rfl rfl rfl ?_
      refine ax_getf (q := 31) (v := am_I (kx_ tp n p)) rfl rfl (am_fg rfl hC.kx.2.1) ?_
      refine ax_const (q := 33) (v := am_I 17) rfl rfl rfl ?_
      refine ax_icmp_ne (q := 36) (x := 42) rfl rfl (fun h => absurd h (by omega)) (fun h33 => ?_)
      refine ax_load (q := 37) rfl rfl rfl rfl rfl ?_
      refine ax_const (q := 38) (v := am_I 2) rfl rfl rfl ?_
      refine ax_callv (q := 41) rfl rfl rfl rfl rfl rfl ?_
      refine x_refuse (by omega) hC.kx.1 (fun σr hgr g0 g1 gJ => ?_)
      refine ax_ret (r := some (am_I 0)) rfl ⟨rfl, Or.inl rfl⟩ ?_
      exact hE _ (rdl_z (nt_k.mpr h33)) _ (gx_tr2 hf (gx_su hgr (by intro x hx; simp at hx ⊢ <;> omega) (by intro x hx; simp at hx ⊢ <;> omega) (by intro x hx; simp at hx ⊢ <;> omega))) ⟨by rw [g0]; exact (if_neg (fun e => by have e2 : tks_ tp n p = 3 := e; rw [((kx_w (i := 17) (by omega)).mp h33).1] at e2; exact absurd e2 (by decide))).symm, g1⟩
  | succ m ih =>
    intro i p x3 σ' hi hwi hf hC hF hE hY
    have ht := hC.ht
    have hX7 : PT_ t := ht
    refine ax_load (q := 3) rfl rfl rfl rfl rfl ?_
    refine ax_getf (q := 6) (v := am_I (kx_ tp n p)) rfl rfl (am_fg rfl hC.kx.2.1) ?_
    refine ax_const (q := 8) (v := am_I 17) rfl rfl rfl ?_
    refine ax_icmp_ne (q := 11) (x := 27) rfl rfl (fun h8 => ?_) (fun h8 => ?_)
    · refine ax_load (q := 28) rfl rfl rfl rfl rfl ?_
      refine ax_getf (q := 31) (v := am_I (kx_ tp n p)) rfl rfl (am_fg rfl hC.kx.2.1) ?_
      refine ax_const (q := 33) (v := am_I 17) rfl rfl rfl ?_
      refine ax_icmp_ne (q := 36) (x := 42) rfl rfl (fun h33 => ?_) (fun h => absurd h (by omega))
      refine ax_load (q := 43) rfl rfl rfl rfl rfl ?_
      refine ax_load (q := 44) rfl rfl rfl rfl rfl ?_
      refine ax_callv (q := 47) rfl rfl rfl rfl rfl rfl ?_
      rw [rdl_n (nt_f h8)] at hE hY
      have hRm := hR (m + 1) (by omega)
      rw [show 7 - (m + 1) = i by omega] at hRm
      refine hRm d σ' p u st _ (by omega) hC hF hl hu (fun e he σe hge g0 => ?_) (fun p2 u2 s2 he σ2 hg2 hC2 hF2 => ?_)
      · refine ax_if_ne (q := 50) (x := 52) rfl rfl (fun h => absurd h (by omega)) (fun h47 => ?_)
        refine ax_const (q := 51) (v := am_I 0) rfl rfl rfl ?_
        refine ax_ret (r := some (am_I 0)) rfl ⟨rfl, Or.inl rfl⟩ ?_
        exact hE _ he _ (gx_tr2 hf hge) g0
      · obtain ⟨b1, b2, b3, b4, b5, b6⟩ := hW (m + 1) (by omega) _ _ _ _ _ hC.pn hu he
        have hln : (st ++ s2).length = st.length + s2.length := List.length_append
        have hf2 := gx_tr2 hf hg2
        refine ax_if_ne (q := 50) (x := 52) rfl rfl (fun h47 => ?_) (fun h => absurd h (by omega))
        refine ax_load (q := 53) rfl rfl rfl rfl rfl ?_
        refine ax_store (q := 54) (L' := [some (am_R 66), some (am_I ((w : Nat) : Int)), some (am_I ((i : Nat) : Int)), some (am_I ((w : Nat) : Int))]) rfl rfl rfl rfl rfl rfl ?_
        exact xl_one1 (by omega) (i - w) w (st ++ s2) σ2 (by omega) (by omega) hf2 hC2 hF2 (by omega) (fun σ3 hg3 hC3 hF3 => hY p2 u2 s2 he σ3 hg3 hC3 hF3)
    · refine ax_load (q := 12) rfl rfl rfl rfl rfl ?_
      refine ax_const (q := 14) (v := am_I 6) rfl rfl rfl ?_
      refine ax_icmp_gt (q := 17) (x := 27) rfl rfl (fun h => absurd h (by omega)) (fun h14 => ?_)
      refine ax_load (q := 18) rfl rfl rfl rfl rfl ?_
      refine ax_callv (q := 21) rfl rfl rfl rfl rfl rfl ?_
      have hnt := nt_k.mpr h8
      have htk : tks_ tp n p = 1 := ((kx_w (i := 17) (by omega)).mp h8).1
      refine x_nextT (by omega) hC (fun e => by rw [htk] at e; exact absurd e (by decide)) (fun σ1 hg1 hC1 => ?_)
      have hf1 : gx_ [t + 28, t + 29, t + 30] [] [0, 1, 5, 6, 7, 9] σ σ1 := gx_tr2 hf (gx_su hg1 (by intro x hx; simp at hx ⊢ <;> omega) (by intro x hx; simp at hx ⊢ <;> omega) (by intro x hx; simp at hx ⊢ <;> omega))
      have hF1 := hF.fr hg1 ht (by intro a ha; cases ha)
      rw [rdl_s hnt] at hE hY
      refine ax_iinc (q := 24) (z' := ((i + 1 : Nat) : Int)) (L' := [some (am_R 66), some (am_I ((w : Nat) : Int)), some (am_I ((i + 1 : Nat) : Int)), x3]) rfl rfl rfl rfl (am_we (by omega) (by omega) (by omega)) rfl ?_
      refine ax_goto (x := 2) rfl ?_
      refine ih (i + 1) (nxp_ tp n p) _ σ1 (by omega) (by omega) hf1 hC1 hF1 (fun e he σ2 hg2 g0 => hE e (by rw [he]; rfl) σ2 hg2 g0) (fun p' u' s' he σ2 hg2 hC2 hF2 => hY p' u' (s' ++ [((2 : Int), (0 : Int))]) (by rw [he]; rfl) σ2 hg2 hC2 ?_)
      rw [show i + 1 - w = (i - w) + 1 by omega, List.replicate_succ] at hF2
      rw [show st ++ (s' ++ [((2 : Int), (0 : Int))]) ++ List.replicate (i - w) ((2 : Int), (0 : Int)) = st ++ s' ++ (((2 : Int), (0 : Int)) :: List.replicate (i - w) ((2 : Int), (0 : Int))) from by simp only [List.append_assoc]; rfl]
      exact hF2

theorem cx_one {tp : Nat → Int} {n t w D0 m : Nat} (hD : 4 ≤ D0) (hwm : w + m = 7) (hR : ∀ m', m' ≤ m → CX_ tp n t 55 (7 - m') D0 (rdr_ tp n (eix_ tp n m'))) (hW : ∀ m', m' ≤ 7 → RW_ n 8 (rdr_ tp n (eix_ tp n m'))) : CX_ tp n t 54 w (D0 + 1) (rdl_ tp n m).1 := by
  intro d σ p u st Q hd hC hF hl hu hE hY
  obtain ⟨d, rfl⟩ : ∃ e, d = e + 1 := ⟨d - 1, by omega⟩
  have ht := hC.ht
  have hX7 : PT_ t := ht
  refine ev_in (m := 54) (c := k_X4_one) (L := [some (am_R 66), some (am_I ((w : Nat) : Int)), none, none]) rfl rfl rfl rfl rfl rfl ?_
  refine ax_load (q := 1) rfl rfl rfl rfl rfl ?_
  refine ax_store (q := 2) (L' := [some (am_R 66), some (am_I ((w : Nat) : Int)), some (am_I ((w : Nat) : Int)), none]) rfl rfl rfl rfl rfl rfl ?_
  refine xl_one0 (by omega) hD (fun m' hm' => hR m' (by omega)) hW hl hu m w p none σ (by omega) (Nat.le_refl _) (gx_rf _ _ _ _) hC hF hE (fun p' u' s' he σ2 hg hC2 hF2 => hY p' u' s' he σ2 hg hC2 ?_)
  rw [Nat.sub_self, List.replicate_zero, List.append_nil] at hF2
  exact hF2

