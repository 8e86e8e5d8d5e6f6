def PT_ (t : Nat) : Prop :=
  (t = 2 ∨ t = 34)
theorem PT_.ht {t : Nat} (h : PT_ t) : t = 2 ∨ t = 34 := h

/-- an empty town -/
def CA_ (t k : Nat) (σ : am_S) : Prop := ∀ j, j < k → σ.1 (t + 1) j = 0
def CB_ (t k : Nat) (σ : am_S) : Prop := ∀ j, j < k → σ.1 (t + 13) j = 0 ∧ σ.1 (t + 14) j = 0 ∧ σ.1 (t + 16) j = 0 ∧ σ.1 (t + 17) j = 0 ∧ σ.1 (t + 18) j = 0
theorem CA_.fr {t k : Nat} {σ σ' : am_S} (h : CA_ t k σ) (e : σ'.1 (t + 1) = σ.1 (t + 1)) : CA_ t k σ' := fun j hj => by rw [e]; exact h j hj

theorem x_fclear {d : Nat} (hd : 1 ≤ d) {σ : am_S} {t : Nat} (ht : t = 2 ∨ t = 34) {Q : Option am_V → am_S → Prop} (hQ : ∀ σ', fr_ [t + 28] σ σ' → σ'.1 (t + 28) 3 = 0 → σ'.1 (t + 28) 4 = 0 → Q none σ') : am_Ev d 0 [am_R (t + 28)] σ Q := by
  obtain ⟨d, rfl⟩ : ∃ e, d = e + 1 := ⟨d - 1, by omega⟩
  have hX : PT_ t := ht
  refine ev_in (m := 0) (c := k_X0_clear) (L := [some (am_R (t + 28))]) rfl rfl rfl rfl rfl rfl ?_
  refine ax_load (q := 1) rfl rfl rfl rfl rfl ?_
  refine ax_const (q := 2) (v := am_I 0) rfl rfl rfl ?_
  refine ax_putf (q := 5) rfl rfl (xp0_3 hX.ht) ?_
  refine ax_load (q := 6) rfl rfl rfl rfl rfl ?_
  refine ax_const (q := 7) (v := am_I 0) rfl rfl rfl ?_
  refine ax_putf (q := 10) rfl rfl (xp0_4 hX.ht) ?_
  refine ax_ret (r := none) rfl rfl ?_
  refine hQ _ (fr_sI (fr_sI (fr_rf _ _) (by simp)) (by simp)) ?_ ?_
  · rw [sI_at, am_up_ne (by decide), sI_at, am_up_same]
  · rw [sI_at, am_up_same]

theorem x_fadd {d : Nat} (hd : 1 ≤ d) {σ : am_S} {t : Nat} (ht : t = 2 ∨ t = 34) {n : Nat} (hn : σ.1 (t + 28) 3 = (n : Int)) (hn9 : n ≤ 300) {a b : Int} {Q : Option am_V → am_S → Prop} (hN : n = 300 → Q none σ) (hY : n < 300 → ∀ σ', fr_ [t + 28, t + 29, t + 30] σ σ' → σ'.1 (t + 28) = am_up (σ.1 (t + 28)) 3 ((n + 1 : Nat) : Int) → σ'.1 (t + 29) = am_up (σ.1 (t + 29)) n a → σ'.1 (t + 30) = am_up (σ.1 (t + 30)) n b → Q none σ') : am_Ev d 1 [am_R (t + 28), am_I a, am_I b] σ Q := by
  obtain ⟨d, rfl⟩ : ∃ e, d = e + 1 := ⟨d - 1, by omega⟩
  have hX : PT_ t := ht
  refine ev_in (m := 1) (c := k_X0_add) (L := [some (am_R (t + 28)), some (am_I a), some (am_I b)]) rfl rfl rfl rfl rfl rfl ?_
  refine ax_load (q := 1) rfl rfl rfl rfl rfl ?_
  refine ax_getf (q := 4) (v := am_I ((n : Nat) : Int)) rfl rfl (am_fg (xg0_3 ht) hn) ?_
  refine ax_const (q := 7) (v := am_I 300) rfl rfl rfl ?_
  refine ax_icmp_ge (q := 10) (x := 40) rfl rfl (fun h7 => ?_) (fun h7 => ?_)
  · refine ax_ret (r := none) rfl rfl ?_
    exact hN (by omega)
  · refine ax_load (q := 11) rfl rfl rfl rfl rfl ?_
    refine ax_getf (q := 14) (v := am_R (t + 29)) rfl rfl (xg0_0 hX.ht) ?_
    refine ax_load (q := 15) rfl rfl rfl rfl rfl ?_
    refine ax_getf (q := 18) (v := am_I ((n : Nat) : Int)) rfl rfl (am_fg (xg0_3 ht) hn) ?_
    refine ax_load (q := 19) rfl rfl rfl rfl rfl ?_
    refine bx_iast (q := 20) (k := n) rfl rfl (kd_29 hX.ht) (by omega) (by omega) ?_
    refine ax_load (q := 21) rfl rfl rfl rfl rfl ?_
    refine ax_getf (q := 24) (v := am_R (t + 30)) rfl rfl (xg0_1 hX.ht) ?_
    refine ax_load (q := 25) rfl rfl rfl rfl rfl ?_
    refine ax_getf (q := 28) (v := am_I ((n : Nat) : Int)) rfl rfl (am_fg (xg0_3 ht) (by rw [sI_ne (by omega)]; exact hn)) ?_
    refine ax_load (q := 29) rfl rfl rfl rfl rfl ?_
    refine bx_iast (q := 30) (k := n) rfl rfl (kd_30 hX.ht) (by omega) (by omega) ?_
    refine ax_load (q := 31) rfl rfl rfl rfl rfl ?_
    refine ax_dup (q := 32) rfl rfl rfl ?_
    refine ax_getf (q := 35) (v := am_I ((n : Nat) : Int)) rfl rfl (am_fg (xg0_3 ht) (by rw [sI_ne (by omega), sI_ne (by omega)]; exact hn)) ?_
    refine ax_const (q := 36) (v := am_I 1) rfl rfl rfl ?_
    refine ax_iadd (q := 37) (z := ((n + 1 : Nat) : Int)) rfl rfl (am_we (by omega) (by omega) (by omega)) ?_
    refine ax_putf (q := 40) rfl rfl (xp0_3 hX.ht) ?_
    refine ax_ret (r := none) rfl rfl ?_
    refine hY (by omega) _ (fr_sI (fr_sI (fr_sI (fr_rf _ _) (by simp)) (by simp)) (by simp)) ?_ ?_ ?_
    · rw [sI_at, sI_ne (by omega), sI_ne (by omega)]
    · rw [sI_ne (by omega), sI_ne (by omega), sI_at]
    · rw [sI_ne (by omega), sI_at, sI_ne (by omega)]

theorem xl_clrB {d : Nat} (hd : 2 ≤ d) {σ : am_S} {t : Nat} (ht : t = 2 ∨ t = 34) {Q : Option am_V → am_S → Prop} (hQ : ∀ σ', fr_ [t, t + 1, t + 13, t + 14, t + 16, t + 17, t + 18, t + 28] σ σ' → CA_ t 5 σ' → CB_ t 8 σ' → σ'.1 (t + 28) 3 = 0 → σ'.1 (t + 28) 4 = 0 → σ'.1 t 10 = 40 → σ'.1 t 11 = 0 → Q none σ') : ∀ (m k : Nat) (x2 : Option am_V), k + m = 8 → ∀ σ', fr_ [t, t + 1, t + 13, t + 14, t + 16, t + 17, t + 18, t + 28] σ σ' → CA_ t 5 σ' → CB_ t k σ' → aW d 4 k_X7_clear Q 26 [some (am_R t), some (am_I ((k : Nat) : Int)), x2] [] σ' := by
  have hX : PT_ t := ht
  intro m
  induction m with
  | zero =>
    intro k x2 hk σ' hf' hA hB
    obtain rfl : k = 8 := by omega
    refine ax_load (q := 27) rfl rfl rfl rfl rfl ?_
    refine ax_const (q := 29) (v := am_I 8) rfl rfl rfl ?_
    refine ax_icmp_ge (q := 32) (x := 74) rfl rfl (fun h29 => ?_) (fun h => absurd h (by omega))
    refine ax_load (q := 75) rfl rfl rfl rfl rfl ?_
    refine ax_getf (q := 78) (v := am_R (t + 28)) rfl rfl (xg7_9 hX.ht) ?_
    refine ax_callv (q := 81) rfl rfl rfl rfl rfl (kd_28 ht) ?_
    refine x_fclear (by omega) ht (fun σ1 hf1 h3 h4 => ?_)
    have hf01 := fr_tr hf' hf1 (by simp)
    refine ax_load (q := 82) rfl rfl rfl rfl rfl ?_
    refine ax_const (q := 84) (v := am_I 40) rfl rfl rfl ?_
    refine ax_putf (q := 87) rfl rfl (xp7_10 hX.ht) ?_
    refine ax_load (q := 88) rfl rfl rfl rfl rfl ?_
    refine ax_const (q := 89) (v := am_I 0) rfl rfl rfl ?_
    refine ax_putf (q := 92) rfl rfl (xp7_11 hX.ht) ?_
    refine ax_ret (r := none) rfl rfl ?_
    refine hQ _ (fr_sI (fr_sI hf01 (by simp)) (by simp)) ?_ ?_ ?_ ?_ ?_ ?_
    · exact hA.fr (by rw [sI_ne (by omega), sI_ne (by omega), hf1.1 _ (by simp)])
    · intro j hj; have := hB j hj; rw [sI_ne (by omega), sI_ne (by omega), sI_ne (by omega), sI_ne (by omega), sI_ne (by omega), sI_ne (by omega), sI_ne (by omega), sI_ne (by omega), sI_ne (by omega), sI_ne (by omega), hf1.1 _ (by simp), hf1.1 _ (by simp), hf1.1 _ (by simp), hf1.1 _ (by simp), hf1.1 _ (by simp)]; exact this
    · rw [sI_ne (by omega), sI_ne (by omega)]; exact h3
    · rw [sI_ne (by omega), sI_ne (by omega)]; exact h4
    · rw [sI_at, am_up_ne (by decide), sI_at, am_up_same]
    · rw [sI_at, am_up_same]
  | succ m ih =>
    intro k x2 hk σ' hf' hA hB
    refine ax_load (q := 27) rfl rfl rfl rfl rfl ?_
    refine ax_const (q := 29) (v := am_I 8) rfl rfl rfl ?_
    refine ax_icmp_ge (q := 32) (x := 74) rfl rfl (fun h => absurd h (by omega)) (fun h29 => ?_)
    refine ax_load (q := 33) rfl rfl rfl rfl rfl ?_
    refine ax_getf (q := 36) (v := am_R (t + 13)) rfl rfl (xg7_3 hX.ht) ?_
    refine ax_load (q := 37) rfl rfl rfl rfl rfl ?_
    refine ax_const (q := 38) (v := am_I 0) rfl rfl rfl ?_
    refine bx_iast (q := 39) (k := k) rfl rfl (kd_13 hX.ht) (by omega) (by omega) ?_
    obtain ⟨σ1, h1⟩ : ∃ u, u = (am_sI σ' (t + 13) (am_up (σ'.1 (t + 13)) k 0)) := ⟨_, rfl⟩
    show aW d 4 k_X7_clear Q 39 [some (am_R t), some (am_I ((k : Nat) : Int)), x2] [] (am_sI σ' (t + 13) (am_up (σ'.1 (t + 13)) k 0))
    rw [← h1]
    have hf1 : fr_ [t, t + 1, t + 13, t + 14, t + 16, t + 17, t + 18, t + 28] σ σ1 := by rw [h1]; exact fr_sI hf' (by simp)
    have hc1 : σ1.1 (t + 13) = am_up (σ'.1 (t + 13)) k 0 := by rw [h1, sI_at]
    have ho1 : ∀ a, a ≠ t + 13 → σ1.1 a = σ'.1 a := fun a ha => by rw [h1, sI_ne ha]
    refine ax_load (q := 40) rfl rfl rfl rfl rfl ?_
    refine ax_getf (q := 43) (v := am_R (t + 14)) rfl rfl (xg7_4 hX.ht) ?_
    refine ax_load (q := 44) rfl rfl rfl rfl rfl ?_
    refine ax_const (q := 45) (v := am_I 0) rfl rfl rfl ?_
    refine bx_iast (q := 46) (k := k) rfl rfl (kd_14 hX.ht) (by omega) (by omega) ?_
    obtain ⟨σ2, h2⟩ : ∃ u, u = (am_sI σ1 (t + 14) (am_up (σ1.1 (t + 14)) k 0)) := ⟨_, rfl⟩
    show aW d 4 k_X7_clear Q 46 [some (am_R t), some (am_I ((k : Nat) : Int)), x2] [] (am_sI σ1 (t + 14) (am_up (σ1.1 (t + 14)) k 0))
    rw [← h2]
    have hf2 : fr_ [t, t + 1, t + 13, t + 14, t + 16, t + 17, t + 18, t + 28] σ σ2 := by rw [h2]; exact fr_sI hf1 (by simp)
    have hc2 : σ2.1 (t + 14) = am_up (σ1.1 (t + 14)) k 0 := by rw [h2, sI_at]
    have ho2 : ∀ a, a ≠ t + 14 → σ2.1 a = σ1.1 a := fun a ha => by rw [h2, sI_ne ha]
    refine ax_const (q := 47) (v := am_I 0) rfl rfl rfl ?_
    refine ax_store (q := 48) (L' := [some (am_R t), some (am_I ((k : Nat) : Int)), some (am_I 0)]) rfl rfl rfl rfl rfl rfl ?_
    refine ax_load (q := 49) rfl rfl rfl rfl rfl ?_
    refine ax_const (q := 50) (v := am_I 3) rfl rfl rfl ?_
    refine ax_icmp_ge (q := 53) (x := 68) rfl rfl (fun h => absurd h (by omega)) (fun h50 => ?_)
    refine ax_load (q := 54) rfl rfl rfl rfl rfl ?_
    refine ax_getf (q := 57) (v := am_R (t + 15)) rfl rfl (xg7_5 hX.ht) ?_
    refine ax_load (q := 58) rfl rfl rfl rfl rfl ?_
    refine bx_aald (q := 59) (k := 0) (z := t + 16) rfl rfl (Or.inl (kd_15 hX.ht)) (by omega) (by omega) (by omega) ?_
    refine ax_load (q := 60) rfl rfl rfl rfl rfl ?_
    refine ax_const (q := 61) (v := am_I 0) rfl rfl rfl ?_
    refine bx_iast (q := 62) (k := k) rfl rfl (kd_16 hX.ht) (by omega) (by omega) ?_
    obtain ⟨σ3, h3⟩ : ∃ u, u = (am_sI σ2 (t + 16) (am_up (σ2.1 (t + 16)) k 0)) := ⟨_, rfl⟩
    show aW d 4 k_X7_clear Q 62 [some (am_R t), some (am_I ((k : Nat) : Int)), some (am_I 0)] [] (am_sI σ2 (t + 16) (am_up (σ2.1 (t + 16)) k 0))
    rw [← h3]
    have hf3 : fr_ [t, t + 1, t + 13, t + 14, t + 16, t + 17, t + 18, t + 28] σ σ3 := by rw [h3]; exact fr_sI hf2 (by simp)
    have hc3 : σ3.1 (t + 16) = am_up (σ2.1 (t + 16)) k 0 := by rw [h3, sI_at]
    have ho3 : ∀ a, a ≠ t + 16 → σ3.1 a = σ2.1 a := fun a ha => by rw [h3, sI_ne ha]
    refine ax_iinc (q := 65) (z' := ((1 : Nat) : Int)) (L' := [some (am_R t), some (am_I ((k : Nat) : Int)), some (am_I ((1 : Nat) : Int))]) rfl rfl rfl rfl (am_we (by omega) (by omega) (by omega)) rfl ?_
    refine ax_goto (x := 48) rfl ?_
    refine ax_load (q := 49) rfl rfl rfl rfl rfl ?_
    refine ax_const (q := 50) (v := am_I 3) rfl rfl rfl ?_
    refine ax_icmp_ge (q := 53) (x := 68) rfl rfl (fun h => absurd h (by omega)) (fun h50 => ?_)
    refine ax_load (q := 54) rfl rfl rfl rfl rfl ?_
    refine ax_getf (q := 57) (v := am_R (t + 15)) rfl rfl (xg7_5 hX.ht) ?_
    refine ax_load (q := 58) rfl rfl rfl rfl rfl ?_
    refine bx_aald (q := 59) (k := 1) (z := t + 17) rfl rfl (Or.inl (kd_15 hX.ht)) (by omega) (by omega) (by omega) ?_
    refine ax_load (q := 60) rfl rfl rfl rfl rfl ?_
    refine ax_const (q := 61) (v := am_I 0) rfl rfl rfl ?_
    refine bx_iast (q := 62) (k := k) rfl rfl (kd_17 hX.ht) (by omega) (by omega) ?_
    obtain ⟨σ4, h4⟩ : ∃ u, u = (am_sI σ3 (t + 17) (am_up (σ3.1 (t + 17)) k 0)) := ⟨_, rfl⟩
    show aW d 4 k_X7_clear Q 62 [some (am_R t), some (am_I ((k : Nat) : Int)), some (am_I ((1 : Nat) : Int))] [] (am_sI σ3 (t + 17) (am_up (σ3.1 (t + 17)) k 0))
    rw [← h4]
    have hf4 : fr_ [t, t + 1, t + 13, t + 14, t + 16, t + 17, t + 18, t + 28] σ σ4 := by rw [h4]; exact fr_sI hf3 (by simp)
    have hc4 : σ4.1 (t + 17) = am_up (σ3.1 (t + 17)) k 0 := by rw [h4, sI_at]
    have ho4 : ∀ a, a ≠ t + 17 → σ4.1 a = σ3.1 a := fun a ha => by rw [h4, sI_ne ha]
    refine ax_iinc (q := 65) (z' := ((2 : Nat) : Int)) (L' := [some (am_R t), some (am_I ((k : Nat) : Int)), some (am_I ((2 : Nat) : Int))]) rfl rfl rfl rfl (am_we (by omega) (by omega) (by omega)) rfl ?_
    refine ax_goto (x := 48) rfl ?_
    refine ax_load (q := 49) rfl rfl rfl rfl rfl ?_
    refine ax_const (q := 50) (v := am_I 3) rfl rfl rfl ?_
    refine ax_icmp_ge (q := 53) (x := 68) rfl rfl (fun h => absurd h (by omega)) (fun h50 => ?_)
    refine ax_load (q := 54) rfl rfl rfl rfl rfl ?_
    refine ax_getf (q := 57) (v := am_R (t + 15)) rfl rfl (xg7_5 hX.ht) ?_
    refine ax_load (q := 58) rfl rfl rfl rfl rfl ?_
    refine bx_aald (q := 59) (k := 2) (z := t + 18) rfl rfl (Or.inl (kd_15 hX.ht)) (by omega) (by omega) (by omega) ?_
    refine ax_load (q := 60) rfl rfl rfl rfl rfl ?_
    refine ax_const (q := 61) (v := am_I 0) rfl rfl rfl ?_
    refine bx_iast (q := 62) (k := k) rfl rfl (kd_18 hX.ht) (by omega) (by omega) ?_
    obtain ⟨σ5, h5⟩ : ∃ u, u = (am_sI σ4 (t + 18) (am_up (σ4.1 (t + 18)) k 0)) := ⟨_, rfl⟩
    show aW d 4 k_X7_clear Q 62 [some (am_R t), some (am_I ((k : Nat) : Int)), some (am_I ((2 : Nat) : Int))] [] (am_sI σ4 (t + 18) (am_up (σ4.1 (t + 18)) k 0))
    rw [← h5]
    have hf5 : fr_ [t, t + 1, t + 13, t + 14, t + 16, t + 17, t + 18, t + 28] σ σ5 := by rw [h5]; exact fr_sI hf4 (by simp)
    have hc5 : σ5.1 (t + 18) = am_up (σ4.1 (t + 18)) k 0 := by rw [h5, sI_at]
    have ho5 : ∀ a, a ≠ t + 18 → σ5.1 a = σ4.1 a := fun a ha => by rw [h5, sI_ne ha]
    refine ax_iinc (q := 65) (z' := ((3 : Nat) : Int)) (L' := [some (am_R t), some (am_I ((k : Nat) : Int)), some (am_I ((3 : Nat) : Int))]) rfl rfl rfl rfl (am_we (by omega) (by omega) (by omega)) rfl ?_
    refine ax_goto (x := 48) rfl ?_
    refine ax_load (q := 49) rfl rfl rfl rfl rfl ?_
    refine ax_const (q := 50) (v := am_I 3) rfl rfl rfl ?_
    refine ax_icmp_ge (q := 53) (x := 68) rfl rfl (fun h50 => ?_) (fun h => absurd h (by omega))
    refine ax_iinc (q := 71) (z' := ((k + 1 : Nat) : Int)) (L' := [some (am_R t), some (am_I ((k + 1 : Nat) : Int)), some (am_I ((3 : Nat) : Int))]) rfl rfl rfl rfl (am_we (by omega) (by omega) (by omega)) rfl ?_
    refine ax_goto (x := 26) rfl ?_
    refine ih (k + 1) _ (by omega) σ5 hf5 (hA.fr (by rw [ho5 _ (by omega), ho4 _ (by omega), ho3 _ (by omega), ho2 _ (by omega), ho1 _ (by omega)])) (fun j hj => ?_)
    by_cases q : j = k
    · rw [q]
      exact ⟨by rw [ho5 _ (by omega), ho4 _ (by omega), ho3 _ (by omega), ho2 _ (by omega), hc1, am_up_same], by rw [ho5 _ (by omega), ho4 _ (by omega), ho3 _ (by omega), hc2, am_up_same], by rw [ho5 _ (by omega), ho4 _ (by omega), hc3, am_up_same], by rw [ho5 _ (by omega), hc4, am_up_same], by rw [hc5, am_up_same]⟩
    · obtain ⟨b1, b2, b3, b4, b5⟩ := hB j (by omega)
      exact ⟨by rw [ho5 _ (by omega), ho4 _ (by omega), ho3 _ (by omega), ho2 _ (by omega), hc1, am_up_ne q]; exact b1, by rw [ho5 _ (by omega), ho4 _ (by omega), ho3 _ (by omega), hc2, am_up_ne q, ho1 _ (by omega)]; exact b2, by rw [ho5 _ (by omega), ho4 _ (by omega), hc3, am_up_ne q, ho2 _ (by omega), ho1 _ (by omega)]; exact b3, by rw [ho5 _ (by omega), hc4, am_up_ne q, ho3 _ (by omega), ho2 _ (by omega), ho1 _ (by omega)]; exact b4, by rw [hc5, am_up_ne q, ho4 _ (by omega), ho3 _ (by omega), ho2 _ (by omega), ho1 _ (by omega)]; exact b5⟩

theorem xl_clrA {d : Nat} (hd : 2 ≤ d) {σ : am_S} {t : Nat} (ht : t = 2 ∨ t = 34) {Q : Option am_V → am_S → Prop} (hQ : ∀ σ', fr_ [t, t + 1, t + 13, t + 14, t + 16, t + 17, t + 18, t + 28] σ σ' → CA_ t 5 σ' → CB_ t 8 σ' → σ'.1 (t + 28) 3 = 0 → σ'.1 (t + 28) 4 = 0 → σ'.1 t 10 = 40 → σ'.1 t 11 = 0 → Q none σ') {x2 : Option am_V} : ∀ (m k : Nat), k + m = 5 → ∀ σ', fr_ [t, t + 1, t + 13, t + 14, t + 16, t + 17, t + 18, t + 28] σ σ' → CA_ t k σ' → aW d 4 k_X7_clear Q 2 [some (am_R t), some (am_I ((k : Nat) : Int)), x2] [] σ' := by
  have hX : PT_ t := ht
  intro m
  induction m with
  | zero =>
    intro k hk σ' hf' hA
    obtain rfl : k = 5 := by omega
    refine ax_load (q := 3) rfl rfl rfl rfl rfl ?_
    refine ax_load (q := 4) rfl rfl rfl rfl rfl ?_
    refine ax_getf (q := 7) (v := am_R (t + 1)) rfl rfl (xg7_0 hX.ht) ?_
    refine ax_alen (q := 8) (m := 5) rfl rfl (kd_1 hX.ht) (by decide) ?_
    refine ax_icmp_ge (q := 11) (x := 24) rfl rfl (fun h8 => ?_) (fun h => absurd h (by omega))
    refine ax_const (q := 25) (v := am_I 0) rfl rfl rfl ?_
    refine ax_store (q := 26) (L' := [some (am_R t), some (am_I 0), x2]) rfl rfl rfl rfl rfl rfl ?_
    exact xl_clrB hd ht hQ 8 0 _ (by omega) σ' hf' hA (fun j hj => absurd hj (by omega))
  | succ m ih =>
    intro k hk σ' hf' hA
    refine ax_load (q := 3) rfl rfl rfl rfl rfl ?_
    refine ax_load (q := 4) rfl rfl rfl rfl rfl ?_
    refine ax_getf (q := 7) (v := am_R (t + 1)) rfl rfl (xg7_0 hX.ht) ?_
    refine ax_alen (q := 8) (m := 5) rfl rfl (kd_1 hX.ht) (by decide) ?_
    refine ax_icmp_ge (q := 11) (x := 24) rfl rfl (fun h => absurd h (by omega)) (fun h8 => ?_)
    refine ax_load (q := 12) rfl rfl rfl rfl rfl ?_
    refine ax_getf (q := 15) (v := am_R (t + 1)) rfl rfl (xg7_0 hX.ht) ?_
    refine ax_load (q := 16) rfl rfl rfl rfl rfl ?_
    refine ax_const (q := 17) (v := am_I 0) rfl rfl rfl ?_
    refine bx_iast (q := 18) (k := k) rfl rfl (kd_1 hX.ht) (by omega) (by omega) ?_
    refine ax_iinc (q := 21) (z' := ((k + 1 : Nat) : Int)) (L' := [some (am_R t), some (am_I ((k + 1 : Nat) : Int)), x2]) rfl rfl rfl rfl (am_we (by omega) (by omega) (by omega)) rfl ?_
    refine ax_goto (x := 2) rfl ?_
    refine ih (k + 1) (by omega) _ (fr_sI hf' (by simp)) (fun j hj => ?_)
    rw [sI_at]
    by_cases q : j = k
    · rw [q, am_up_same]
    · rw [am_up_ne q]; exact hA j (by omega)

theorem x_tclear {d : Nat} (hd : 3 ≤ d) {σ : am_S} {t : Nat} (ht : t = 2 ∨ t = 34) {Q : Option am_V → am_S → Prop} (hQ : ∀ σ', fr_ [t, t + 1, t + 13, t + 14, t + 16, t + 17, t + 18, t + 28] σ σ' → CA_ t 5 σ' → CB_ t 8 σ' → σ'.1 (t + 28) 3 = 0 → σ'.1 (t + 28) 4 = 0 → σ'.1 t 10 = 40 → σ'.1 t 11 = 0 → Q none σ') : am_Ev d 87 [am_R t] σ Q := by
  obtain ⟨d, rfl⟩ : ∃ e, d = e + 1 := ⟨d - 1, by omega⟩
  have hX : PT_ t := ht
  refine ev_in (m := 87) (c := k_X7_clear) (L := [some (am_R t), none, none]) rfl rfl rfl rfl rfl rfl ?_
  refine ax_const (q := 1) (v := am_I 0) rfl rfl rfl ?_
  refine ax_store (q := 2) (L' := [some (am_R t), some (am_I 0), none]) rfl rfl rfl rfl rfl rfl ?_
  exact xl_clrA (by omega) ht hQ 5 0 (by omega) σ (fr_rf _ _) (fun j hj => absurd hj (by omega))

