theorem l_readParish {d : Nat} {σ : am_S} {k : Nat} (hk : σ.1 135 45 = (k : Int)) (hk3 : k < 3) {Q : Option am_V → am_S → Prop} (hQ : aW d 4 k_X9_readParish Q 47 [some (am_R 135), some (am_I ((8 : Nat) : Int))] [] (am_sI σ 157 (cd_ (fun _ => 0) (σ.1 157) (8 * k) 8))) : ∀ (m j : Nat), j + m = 8 → aW d 4 k_X9_readParish Q 20 [some (am_R 135), some (am_I ((j : Nat) : Int))] [] (am_sI σ 157 (cd_ (fun _ => 0) (σ.1 157) (8 * k) j)) := by
  intro m
  induction m with
  | zero =>
    intro j hj
    obtain rfl : j = 8 := by omega
    refine ax_load (q := 21) rfl rfl rfl rfl rfl ?_
    refine ax_const (q := 23) (v := am_I 8) rfl rfl rfl ?_
    refine ax_icmp_ge (q := 26) (x := 47) rfl rfl (fun h23 => ?_) (fun h => absurd h (by omega))
    exact hQ
  | succ m ih =>
    intro j hj
    refine ax_load (q := 21) rfl rfl rfl rfl rfl ?_
    refine ax_const (q := 23) (v := am_I 8) rfl rfl rfl ?_
    refine ax_icmp_ge (q := 26) (x := 47) rfl rfl (fun h => absurd h (by omega)) (fun h23 => ?_)
    refine ax_load (q := 27) rfl rfl rfl rfl rfl ?_
    refine ax_getf (q := 30) (v := am_R 157) rfl rfl (rfl) ?_
    refine ax_const (q := 32) (v := am_I 8) rfl rfl rfl ?_
    refine ax_load (q := 33) rfl rfl rfl rfl rfl ?_
    refine ax_getf (q := 36) (v := am_I ((k : Nat) : Int)) rfl rfl (am_fg rfl (by first | exact hk | (rw [sI_ne (by decide)]; exact hk))) ?_
    refine ax_imul (q := 37) (z := ((8 * k : Nat) : Int)) rfl rfl (am_we (by omega) (by omega) (by omega)) ?_
    refine ax_load (q := 38) rfl rfl rfl rfl rfl ?_
    refine ax_iadd (q := 39) (z := (((8 * k) + j : Nat) : Int)) rfl rfl (am_we (by omega) (by omega) (by omega)) ?_
    refine ax_const (q := 40) (v := am_I 0) rfl rfl rfl ?_
    refine bx_iast (q := 41) (k := (8 * k) + j) rfl rfl (rfl) (by omega) (by omega) ?_
    refine ax_iinc (q := 44) (z' := ((j + 1 : Nat) : Int)) (L' := [some (am_R 135), some (am_I ((j + 1 : Nat) : Int))]) rfl rfl rfl rfl (am_we (by omega) (by omega) (by omega)) rfl ?_
    refine ax_goto (x := 20) rfl ?_
    rw [sI_sI, sI_at]
    have g := ih (j + 1) (by omega)
    rw [← cd_step] at g
    exact g

theorem r_readParish {d : Nat} (hd : 4 ≤ d) {σ : am_S} {tp : Nat → Int} {n p : Nat} (hP : PS_ tp n p σ) (h02 : σ.1 135 2 = 0) {g : Nat → Int} (hg : σ.2.1 137 = g) {k : Nat} (hk : σ.1 135 45 = (k : Int)) (hk3 : k < 3) {Q : Option am_V → am_S → Prop} (hN : ∀ e, nwn_ tp n g 12 k p = Sum.inl e → ∀ σ', fp_ [] pf_ [] σ σ' → 0 < e.1 → FT_ tp n e σ' → Q none σ') (hY : ∀ p', nwn_ tp n g 12 k p = Sum.inr p' → ∀ σ', fp_ [157] (45 :: pf_) [137] σ σ' → σ'.1 135 2 = 0 → PS_ tp n p' σ' → σ'.2.1 137 = am_up g (12 + k) (tkw_ tp n (nxp_ tp n p)) → σ'.1 135 45 = ((k + 1 : Nat) : Int) → σ'.1 157 = cd_ (fun _ => 0) (σ.1 157) (8 * k) 8 → Q none σ') : am_Ev d 176 [am_R 135] σ Q := by
  obtain ⟨d, rfl⟩ : ∃ e, d = e + 1 := ⟨d - 1, by omega⟩
  refine ev_in (m := 176) (c := k_X9_readParish) (L := [some (am_R 135), none]) rfl rfl rfl rfl rfl rfl ?_
  refine ax_load (q := 1) rfl rfl rfl rfl rfl ?_
  refine ax_const (q := 3) (v := am_I 12) rfl rfl rfl ?_
  refine ax_load (q := 4) rfl rfl rfl rfl rfl ?_
  refine ax_getf (q := 7) (v := am_I ((k : Nat) : Int)) rfl rfl (am_fg rfl hk) ?_
  refine ax_callv (q := 10) rfl rfl rfl rfl rfl rfl ?_
  refine r_newName (b := 12) (by omega) hP h02 hg (by omega) (fun e he σ1 hf1 h0 hF => ?_) (fun p2 he σ1 hf1 h21 hP1 hg1 => ?_)
  · refine ax_load (q := 11) rfl rfl rfl rfl rfl ?_
    refine ax_getf (q := 14) (v := am_I (σ1.1 135 2)) rfl rfl (rfl) ?_
    refine ax_if_le (q := 17) (x := 18) rfl rfl (fun h => absurd h (by have := FT_pos hF h0; omega)) (fun h14 => ?_)
    refine ax_ret (r := none) rfl rfl ?_
    exact hN e he σ1 hf1 h0 hF
  · refine ax_load (q := 11) rfl rfl rfl rfl rfl ?_
    refine ax_getf (q := 14) (v := am_I (σ1.1 135 2)) rfl rfl (rfl) ?_
    refine ax_if_le (q := 17) (x := 18) rfl rfl (fun h14 => ?_) (fun h => absurd h (by omega))
    refine ax_const (q := 19) (v := am_I 0) rfl rfl rfl ?_
    refine ax_store (q := 20) (L' := [some (am_R 135), some (am_I 0)]) rfl rfl rfl rfl rfl rfl ?_
    have hk1 : σ1.1 135 45 = (k : Int) := by rw [hf1.2.1 45 (by decide)]; exact hk
    have q := l_readParish (d := d) (σ := σ1) hk1 hk3 (Q := Q) ?_ 8 0 (by omega)
    · rw [cd_0, sI_id] at q
      exact q
    refine ax_load (q := 48) rfl rfl rfl rfl rfl ?_
    refine ax_dup (q := 49) rfl rfl rfl ?_
    refine ax_getf (q := 52) (v := am_I ((k : Nat) : Int)) rfl rfl (am_fg rfl (by first | exact hk1 | (rw [sI_ne (by decide)]; exact hk1))) ?_
    refine ax_const (q := 53) (v := am_I 1) rfl rfl rfl ?_
    refine ax_iadd (q := 54) (z := ((k + 1 : Nat) : Int)) rfl rfl (am_we (by omega) (by omega) (by omega)) ?_
    refine ax_putf (q := 57) rfl rfl rfl ?_
    refine ax_ret (r := none) rfl rfl ?_
    exact hY p2 he _ (fp_s5 (fp_sI (fp_tr (fp_rf _ _ _ _) hf1 (by decide) (by decide) (by decide)) (by decide) (by decide)) (by decide)) (by rw [sI_at, am_up_ne (by decide), sI_ne (by decide)]; exact h21) (PS_s5 (PS_sI hP1 (by decide) (by decide)) (by decide)) hg1 (by rw [sI_at, am_up_same]) (by rw [sI_ne (by decide), sI_at, hf1.1 157 (by decide) (by decide)])

