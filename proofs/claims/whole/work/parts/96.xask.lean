def cq2_ (T : sp_T) (s : Nat) (z : Int) (o : Nat) : Nat → Bool := fun u => s.testBit u && decide (mk_ T o z = mk_ T u z)
def mx_ (T : sp_T) (s : Nat) (z : Int) : Nat → Nat
  | 0 => 0
  | o + 1 => if s.testBit o then (if mx_ T s z o < ct_ (nO_ T) (cq2_ T s z o) then ct_ (nO_ T) (cq2_ T s z o) else mx_ T s z o) else mx_ T s z o
theorem mx_le (T : sp_T) (s : Nat) (z : Int) : ∀ o, mx_ T s z o ≤ nO_ T
  | 0 => Nat.zero_le _
  | o + 1 => by
    have ih := mx_le T s z o
    have h : ct_ (nO_ T) (cq2_ T s z o) ≤ nO_ T := ct_le _ _
    unfold mx_
    (repeat' split) <;> omega
theorem mx_ge (T : sp_T) (s : Nat) (z : Int) : ∀ n o, o < n → s.testBit o = true → ct_ (nO_ T) (cq2_ T s z o) ≤ mx_ T s z n
  | 0, o, h, _ => absurd h (by omega)
  | n + 1, o, h, hs => by
    have ih := mx_ge T s z n o
    unfold mx_
    by_cases q : o = n
    · subst q; rw [if_pos hs]; split <;> omega
    · have := ih (by omega) hs
      (repeat' split) <;> omega
theorem mx_in (T : sp_T) (s : Nat) (z : Int) : ∀ n, mx_ T s z n = 0 ∨ ∃ o, o < n ∧ s.testBit o = true ∧ mx_ T s z n = ct_ (nO_ T) (cq2_ T s z o)
  | 0 => Or.inl rfl
  | n + 1 => by
    have ih := mx_in T s z n
    have up : mx_ T s z n = 0 ∨ ∃ o, o < n + 1 ∧ s.testBit o = true ∧ mx_ T s z n = ct_ (nO_ T) (cq2_ T s z o) := by
      rcases ih with h | ⟨o, h1, h2, h3⟩
      · exact Or.inl h
      · exact Or.inr ⟨o, by omega, h2, h3⟩
    unfold mx_
    split
    · next q =>
      split
      · exact Or.inr ⟨n, by omega, q, rfl⟩
      · exact up
    · exact up
theorem ml_ge (T : sp_T) (s : Nat) (z : Int) : ∀ n v, v < n → cm_ T s z v ≤ ml_ T s z n
  | 0, v, h => absurd h (by omega)
  | n + 1, v, h => by
    have ih := ml_ge T s z n v
    unfold ml_
    by_cases q : v = n
    · subst q; split <;> omega
    · have := ih (by omega)
      split <;> omega
theorem ml_in (T : sp_T) (s : Nat) (z : Int) : ∀ n, ml_ T s z n = 0 ∨ ∃ v, v < n ∧ ml_ T s z n = cm_ T s z v
  | 0 => Or.inl rfl
  | n + 1 => by
    have ih := ml_in T s z n
    unfold ml_
    split
    · exact Or.inr ⟨n, by omega, rfl⟩
    · rcases ih with h | ⟨v, h1, h2⟩
      · exact Or.inl h
      · exact Or.inr ⟨v, by omega, h2⟩
theorem ct_pos {p : Nat → Bool} : ∀ n, 0 < ct_ n p → ∃ k, k < n ∧ p k = true
  | 0, h => absurd h (Nat.lt_irrefl 0)
  | n + 1, h => by
    by_cases q : p n = true
    · exact ⟨n, by omega, q⟩
    · have e : ct_ (n + 1) p = ct_ n p := by show ct_ n p + (if p n = true then 1 else 0) = _; rw [if_neg q]; rfl
      rw [e] at h
      obtain ⟨k, h1, h2⟩ := ct_pos n h
      exact ⟨k, by omega, h2⟩
theorem mx_ml {T : sp_T} (hV : TV_ T) (s : Nat) {z : Int} (hz : z = 0 ∨ z = 1 ∨ z = 2) : mx_ T s z (nO_ T) = ml_ T s z 10 := by
  have h4 := hV.nS
  have hm : ∀ o, o < nO_ T → ∃ v : Nat, v < 10 ∧ mk_ T o z = (v : Int) := by
    intro o ho
    have h1 := hV.se ho
    have h2 := hV.we ho
    have h3 := hV.sk ho
    unfold mk_
    split
    · exact ⟨(T 153 o).toNat, by omega, by omega⟩
    · split
      · exact ⟨(T 154 o).toNat, by omega, by omega⟩
      · exact ⟨sk_ T o, by omega, rfl⟩
  have he : ∀ o v, mk_ T o z = ((v : Nat) : Int) → ct_ (nO_ T) (cq2_ T s z o) = cm_ T s z v := by
    intro o v h
    refine ct_eq _ (fun u hu => ?_)
    show (s.testBit u && decide (mk_ T o z = mk_ T u z)) = (s.testBit u && decide (mk_ T u z = (v : Int)))
    rw [h]
    congr 1
    exact decide_eq_decide.mpr ⟨fun q => q.symm, fun q => q.symm⟩
  apply Nat.le_antisymm
  · rcases mx_in T s z (nO_ T) with h | ⟨o, h1, h2, h3⟩
    · omega
    · obtain ⟨v, h5, h6⟩ := hm o h1
      rw [h3, he o v h6]
      exact ml_ge T s z 10 v h5
  · rcases ml_in T s z 10 with h | ⟨v, h1, h2⟩
    · omega
    · by_cases q : 0 < cm_ T s z v
      · obtain ⟨o, h5, h6⟩ := ct_pos _ q
        rw [Bool.and_eq_true, decide_eq_true_eq] at h6
        rw [h2, ← he o v h6.2]
        exact mx_ge T s z _ o h5 h6.1
      · omega

theorem ab_eq (T : sp_T) (s : Nat) : ab_ T s = if ml_ T s 1 10 < ml_ T s 0 10 then (if ml_ T s 2 10 < ml_ T s 1 10 then 2 else 1) else (if ml_ T s 2 10 < ml_ T s 0 10 then 2 else 0) := by
  unfold ab_
  by_cases q : ml_ T s 1 10 < ml_ T s 0 10
  · simp only [if_pos q]
  · simp only [if_neg q]

theorem xl_most2 {d : Nat} (hd : 1 ≤ d) {σ : am_S} {t : Nat} {T : sp_T} (hX : XT_ t T σ) (hV : TV_ T) {s : Nat} (hs8 : s < 256) {z : Int} (hz : z = 0 ∨ z = 1 ∨ z = 2) {o : Nat} (ho : o < nO_ T) {Q : Option am_V → am_S → Prop} (hQ : ∀ x6 x7, aW d 0 k_X6_mostLeft Q 87 [some (am_R t), some (am_I ((s : Nat) : Int)), some (am_I z), some (am_I (((mx_ T s z o) : Nat) : Int)), some (am_I ((o : Nat) : Int)), some (am_I (((ct_ (nO_ T) (cq2_ T s z o)) : Nat) : Int)), x6, x7] [] σ) : ∀ (m j : Nat) (x7 : Option am_V), j + m = nO_ T → aW d 0 k_X6_mostLeft Q 22 [some (am_R t), some (am_I ((s : Nat) : Int)), some (am_I z), some (am_I (((mx_ T s z o) : Nat) : Int)), some (am_I ((o : Nat) : Int)), some (am_I (((ct_ j (cq2_ T s z o)) : Nat) : Int)), some (am_I ((j : Nat) : Int)), x7] [] σ := by
  have hO8 := hV.nO
  intro m
  induction m with
  | zero =>
    intro j x7 hj
    obtain rfl : j = nO_ T := by omega
    refine ax_load (q := 24) rfl rfl rfl rfl rfl ?_
    refine ax_load (q := 25) rfl rfl rfl rfl rfl ?_
    refine ax_getf (q := 28) (v := am_R (t + 1)) rfl rfl (xg7_0 hX.ht) ?_
    refine ax_const (q := 29) (v := am_I 2) rfl rfl rfl ?_
    refine bx_iald (q := 30) (k := 2) (z := (((nO_ T) : Nat) : Int)) rfl rfl (kd_1 hX.ht) (by omega) (by omega) (hX.c2.trans hV.nO.1) ?_
    refine ax_icmp_ge (q := 33) (x := 87) rfl rfl (fun h30 => ?_) (fun h => absurd h (by omega))
    exact hQ _ _
  | succ m ih =>
    intro j x7 hj
    have hct := ct_le (cq2_ T s z o) j
    have hp2 : 2 ^ j < 2 ^ 8 := Nat.pow_lt_pow_right (by decide) (by omega)
    have hcq : cq2_ T s z o j = (s.testBit j && decide (mk_ T o z = mk_ T j z)) := rfl
    refine ax_load (q := 24) rfl rfl rfl rfl rfl ?_
    refine ax_load (q := 25) rfl rfl rfl rfl rfl ?_
    refine ax_getf (q := 28) (v := am_R (t + 1)) rfl rfl (xg7_0 hX.ht) ?_
    refine ax_const (q := 29) (v := am_I 2) rfl rfl rfl ?_
    refine bx_iald (q := 30) (k := 2) (z := (((nO_ T) : Nat) : Int)) rfl rfl (kd_1 hX.ht) (by omega) (by omega) (hX.c2.trans hV.nO.1) ?_
    refine ax_icmp_ge (q := 33) (x := 87) rfl rfl (fun h => absurd h (by omega)) (fun h30 => ?_)
    refine ax_load (q := 34) rfl rfl rfl rfl rfl ?_
    refine ax_load (q := 36) rfl rfl rfl rfl rfl ?_
    refine ax_load (q := 37) rfl rfl rfl rfl rfl ?_
    refine ax_calls (q := 40) rfl rfl rfl rfl rfl ?_
    refine x_seen (by omega) hX hV (by omega) hz ?_
    refine ax_load (q := 41) rfl rfl rfl rfl rfl ?_
    refine ax_load (q := 43) rfl rfl rfl rfl rfl ?_
    refine ax_load (q := 44) rfl rfl rfl rfl rfl ?_
    refine ax_calls (q := 47) rfl rfl rfl rfl rfl ?_
    refine x_seen (by omega) hX hV (by omega) hz ?_
    refine ax_icmp_ne (q := 50) (x := 54) rfl rfl (fun h47 => ?_) (fun h47 => ?_)
    · refine ax_const (q := 55) (v := am_I 0) rfl rfl rfl ?_
      refine ax_store (q := 57) (L' := [some (am_R t), some (am_I ((s : Nat) : Int)), some (am_I z), some (am_I (((mx_ T s z o) : Nat) : Int)), some (am_I ((o : Nat) : Int)), some (am_I (((ct_ j (cq2_ T s z o)) : Nat) : Int)), some (am_I ((j : Nat) : Int)), some (am_I 0)]) rfl rfl rfl rfl rfl rfl ?_
      refine ax_load (q := 59) rfl rfl rfl rfl rfl ?_
      refine ax_load (q := 60) rfl rfl rfl rfl rfl ?_
      refine ax_const (q := 61) (v := am_I 1) rfl rfl rfl ?_
      refine ax_load (q := 63) rfl rfl rfl rfl rfl ?_
      refine ax_ishl (q := 64) (z := ((2 ^ j : Nat) : Int)) rfl rfl (am_shl1 j (by omega)) ?_
      refine ax_iand (q := 65) (z := ((s &&& 2 ^ j : Nat) : Int)) rfl rfl (am_and_nat (by omega) (by omega)) ?_
      refine ax_if_eq (q := 68) (x := 77) rfl rfl (fun h65 => ?_) (fun h65 => ?_)
      · have hbt : s.testBit j = false := by
          cases w : s.testBit j with
          | false => rfl
          | true => exfalso; rw [land_2, w] at h65; have := Nat.two_pow_pos j; rw [if_pos rfl] at h65; omega
        refine ax_const (q := 78) (v := am_I 0) rfl rfl rfl ?_
        refine ax_iadd (q := 79) (z := ((((ct_ j (cq2_ T s z o))) + 0 : Nat) : Int)) rfl rfl (am_we (by omega) (by omega) (by omega)) ?_
        refine ax_store (q := 81) (L' := [some (am_R t), some (am_I ((s : Nat) : Int)), some (am_I z), some (am_I (((mx_ T s z o) : Nat) : Int)), some (am_I ((o : Nat) : Int)), some (am_I ((((ct_ j (cq2_ T s z o))) + 0 : Nat) : Int)), some (am_I ((j : Nat) : Int)), some (am_I 0)]) rfl rfl rfl rfl rfl rfl ?_
        refine ax_iinc (q := 84) (z' := ((j + 1 : Nat) : Int)) (L' := [some (am_R t), some (am_I ((s : Nat) : Int)), some (am_I z), some (am_I (((mx_ T s z o) : Nat) : Int)), some (am_I ((o : Nat) : Int)), some (am_I ((((ct_ j (cq2_ T s z o))) + 0 : Nat) : Int)), some (am_I ((j + 1 : Nat) : Int)), some (am_I 0)]) rfl rfl rfl rfl (am_we (by omega) (by omega) (by omega)) rfl ?_
        refine ax_goto (x := 22) rfl ?_
        have hc : cq2_ T s z o j = false := by rw [hcq, hbt, Bool.false_and]
        have e : ct_ (j + 1) (cq2_ T s z o) = ct_ j (cq2_ T s z o) := by show _ + (if cq2_ T s z o j = true then 1 else 0) = _; rw [hc]; rfl
        have g := ih (j + 1) (some (am_I 0)) (by omega)
        rw [e] at g
        exact g
      · have hbt : s.testBit j = true := by
          cases w : s.testBit j with
          | true => rfl
          | false => exfalso; rw [land_2, w] at h65; exact h65 rfl
        refine ax_load (q := 70) rfl rfl rfl rfl rfl ?_
        refine ax_if_eq (q := 73) (x := 77) rfl rfl (fun h70 => ?_) (fun h => absurd h (by omega))
        refine ax_const (q := 78) (v := am_I 0) rfl rfl rfl ?_
        refine ax_iadd (q := 79) (z := ((((ct_ j (cq2_ T s z o))) + 0 : Nat) : Int)) rfl rfl (am_we (by omega) (by omega) (by omega)) ?_
        refine ax_store (q := 81) (L' := [some (am_R t), some (am_I ((s : Nat) : Int)), some (am_I z), some (am_I (((mx_ T s z o) : Nat) : Int)), some (am_I ((o : Nat) : Int)), some (am_I ((((ct_ j (cq2_ T s z o))) + 0 : Nat) : Int)), some (am_I ((j : Nat) : Int)), some (am_I 0)]) rfl rfl rfl rfl rfl rfl ?_
        refine ax_iinc (q := 84) (z' := ((j + 1 : Nat) : Int)) (L' := [some (am_R t), some (am_I ((s : Nat) : Int)), some (am_I z), some (am_I (((mx_ T s z o) : Nat) : Int)), some (am_I ((o : Nat) : Int)), some (am_I ((((ct_ j (cq2_ T s z o))) + 0 : Nat) : Int)), some (am_I ((j + 1 : Nat) : Int)), some (am_I 0)]) rfl rfl rfl rfl (am_we (by omega) (by omega) (by omega)) rfl ?_
        refine ax_goto (x := 22) rfl ?_
        have hc : cq2_ T s z o j = false := by rw [hcq, decide_eq_false h47, Bool.and_false]
        have e : ct_ (j + 1) (cq2_ T s z o) = ct_ j (cq2_ T s z o) := by show _ + (if cq2_ T s z o j = true then 1 else 0) = _; rw [hc]; rfl
        have g := ih (j + 1) (some (am_I 0)) (by omega)
        rw [e] at g
        exact g
    · refine ax_const (q := 51) (v := am_I 1) rfl rfl rfl ?_
      refine ax_goto (x := 55) rfl ?_
      refine ax_store (q := 57) (L' := [some (am_R t), some (am_I ((s : Nat) : Int)), some (am_I z), some (am_I (((mx_ T s z o) : Nat) : Int)), some (am_I ((o : Nat) : Int)), some (am_I (((ct_ j (cq2_ T s z o)) : Nat) : Int)), some (am_I ((j : Nat) : Int)), some (am_I 1)]) rfl rfl rfl rfl rfl rfl ?_
      refine ax_load (q := 59) rfl rfl rfl rfl rfl ?_
      refine ax_load (q := 60) rfl rfl rfl rfl rfl ?_
      refine ax_const (q := 61) (v := am_I 1) rfl rfl rfl ?_
      refine ax_load (q := 63) rfl rfl rfl rfl rfl ?_
      refine ax_ishl (q := 64) (z := ((2 ^ j : Nat) : Int)) rfl rfl (am_shl1 j (by omega)) ?_
      refine ax_iand (q := 65) (z := ((s &&& 2 ^ j : Nat) : Int)) rfl rfl (am_and_nat (by omega) (by omega)) ?_
      refine ax_if_eq (q := 68) (x := 77) rfl rfl (fun h65 => ?_) (fun h65 => ?_)
      · have hbt : s.testBit j = false := by
          cases w : s.testBit j with
          | false => rfl
          | true => exfalso; rw [land_2, w] at h65; have := Nat.two_pow_pos j; rw [if_pos rfl] at h65; omega
        refine ax_const (q := 78) (v := am_I 0) rfl rfl rfl ?_
        refine ax_iadd (q := 79) (z := ((((ct_ j (cq2_ T s z o))) + 0 : Nat) : Int)) rfl rfl (am_we (by omega) (by omega) (by omega)) ?_
        refine ax_store (q := 81) (L' := [some (am_R t), some (am_I ((s : Nat) : Int)), some (am_I z), some (am_I (((mx_ T s z o) : Nat) : Int)), some (am_I ((o : Nat) : Int)), some (am_I ((((ct_ j (cq2_ T s z o))) + 0 : Nat) : Int)), some (am_I ((j : Nat) : Int)), some (am_I 1)]) rfl rfl rfl rfl rfl rfl ?_
        refine ax_iinc (q := 84) (z' := ((j + 1 : Nat) : Int)) (L' := [some (am_R t), some (am_I ((s : Nat) : Int)), some (am_I z), some (am_I (((mx_ T s z o) : Nat) : Int)), some (am_I ((o : Nat) : Int)), some (am_I ((((ct_ j (cq2_ T s z o))) + 0 : Nat) : Int)), some (am_I ((j + 1 : Nat) : Int)), some (am_I 1)]) rfl rfl rfl rfl (am_we (by omega) (by omega) (by omega)) rfl ?_
        refine ax_goto (x := 22) rfl ?_
        have hc : cq2_ T s z o j = false := by rw [hcq, hbt, Bool.false_and]
        have e : ct_ (j + 1) (cq2_ T s z o) = ct_ j (cq2_ T s z o) := by show _ + (if cq2_ T s z o j = true then 1 else 0) = _; rw [hc]; rfl
        have g := ih (j + 1) (some (am_I 1)) (by omega)
        rw [e] at g
        exact g
      · have hbt : s.testBit j = true := by
          cases w : s.testBit j with
          | true => rfl
          | false => exfalso; rw [land_2, w] at h65; exact h65 rfl
        refine ax_load (q := 70) rfl rfl rfl rfl rfl ?_
        refine ax_if_eq (q := 73) (x := 77) rfl rfl (fun h => absurd h (by omega)) (fun h70 => ?_)
        refine ax_const (q := 74) (v := am_I 1) rfl rfl rfl ?_
        refine ax_goto (x := 78) rfl ?_
        refine ax_iadd (q := 79) (z := ((((ct_ j (cq2_ T s z o))) + 1 : Nat) : Int)) rfl rfl (am_we (by omega) (by omega) (by omega)) ?_
        refine ax_store (q := 81) (L' := [some (am_R t), some (am_I ((s : Nat) : Int)), some (am_I z), some (am_I (((mx_ T s z o) : Nat) : Int)), some (am_I ((o : Nat) : Int)), some (am_I ((((ct_ j (cq2_ T s z o))) + 1 : Nat) : Int)), some (am_I ((j : Nat) : Int)), some (am_I 1)]) rfl rfl rfl rfl rfl rfl ?_
        refine ax_iinc (q := 84) (z' := ((j + 1 : Nat) : Int)) (L' := [some (am_R t), some (am_I ((s : Nat) : Int)), some (am_I z), some (am_I (((mx_ T s z o) : Nat) : Int)), some (am_I ((o : Nat) : Int)), some (am_I ((((ct_ j (cq2_ T s z o))) + 1 : Nat) : Int)), some (am_I ((j + 1 : Nat) : Int)), some (am_I 1)]) rfl rfl rfl rfl (am_we (by omega) (by omega) (by omega)) rfl ?_
        refine ax_goto (x := 22) rfl ?_
        have hc : cq2_ T s z o j = true := by rw [hcq, hbt, decide_eq_true h47]; rfl
        have e : ct_ (j + 1) (cq2_ T s z o) = ct_ j (cq2_ T s z o) + 1 := by show _ + (if cq2_ T s z o j = true then 1 else 0) = _; rw [hc]; rfl
        have g := ih (j + 1) (some (am_I 1)) (by omega)
        rw [e] at g
        exact g

theorem xl_most1 {d : Nat} (hd : 1 ≤ d) {σ : am_S} {t : Nat} {T : sp_T} (hX : XT_ t T σ) (hV : TV_ T) {s : Nat} (hs8 : s < 256) {z : Int} (hz : z = 0 ∨ z = 1 ∨ z = 2) {Q : Option am_V → am_S → Prop} (hQ : Q (some (am_I ((ml_ T s z 10 : Nat) : Int))) σ) : ∀ (m o : Nat) (x5 x6 x7 : Option am_V), o + m = nO_ T → aW d 0 k_X6_mostLeft Q 5 [some (am_R t), some (am_I ((s : Nat) : Int)), some (am_I z), some (am_I (((mx_ T s z o) : Nat) : Int)), some (am_I ((o : Nat) : Int)), x5, x6, x7] [] σ := by
  have hO8 := hV.nO
  intro m
  induction m with
  | zero =>
    intro o x5 x6 x7 ho
    obtain rfl : o = nO_ T := by omega
    refine ax_load (q := 7) rfl rfl rfl rfl rfl ?_
    refine ax_load (q := 8) rfl rfl rfl rfl rfl ?_
    refine ax_getf (q := 11) (v := am_R (t + 1)) rfl rfl (xg7_0 hX.ht) ?_
    refine ax_const (q := 12) (v := am_I 2) rfl rfl rfl ?_
    refine bx_iald (q := 13) (k := 2) (z := (((nO_ T) : Nat) : Int)) rfl rfl (kd_1 hX.ht) (by omega) (by omega) (hX.c2.trans hV.nO.1) ?_
    refine ax_icmp_ge (q := 16) (x := 113) rfl rfl (fun h13 => ?_) (fun h => absurd h (by omega))
    refine ax_load (q := 114) rfl rfl rfl rfl rfl ?_
    refine ax_ret (r := some (am_I (((mx_ T s z (nO_ T)) : Nat) : Int))) rfl rfl ?_
    rw [mx_ml hV s hz]
    exact hQ
  | succ m ih =>
    intro o x5 x6 x7 ho
    have hml := mx_le T s z o
    have hct : ct_ (nO_ T) (cq2_ T s z o) ≤ nO_ T := ct_le _ _
    have hp2 : 2 ^ o < 2 ^ 8 := Nat.pow_lt_pow_right (by decide) (by omega)
    have hmx : mx_ T s z (o + 1) = if s.testBit o then (if mx_ T s z o < ct_ (nO_ T) (cq2_ T s z o) then ct_ (nO_ T) (cq2_ T s z o) else mx_ T s z o) else mx_ T s z o := rfl
    refine ax_load (q := 7) rfl rfl rfl rfl rfl ?_
    refine ax_load (q := 8) rfl rfl rfl rfl rfl ?_
    refine ax_getf (q := 11) (v := am_R (t + 1)) rfl rfl (xg7_0 hX.ht) ?_
    refine ax_const (q := 12) (v := am_I 2) rfl rfl rfl ?_
    refine bx_iald (q := 13) (k := 2) (z := (((nO_ T) : Nat) : Int)) rfl rfl (kd_1 hX.ht) (by omega) (by omega) (hX.c2.trans hV.nO.1) ?_
    refine ax_icmp_ge (q := 16) (x := 113) rfl rfl (fun h => absurd h (by omega)) (fun h13 => ?_)
    refine ax_const (q := 17) (v := am_I 0) rfl rfl rfl ?_
    refine ax_store (q := 19) (L' := [some (am_R t), some (am_I ((s : Nat) : Int)), some (am_I z), some (am_I (((mx_ T s z o) : Nat) : Int)), some (am_I ((o : Nat) : Int)), some (am_I 0), x6, x7]) rfl rfl rfl rfl rfl rfl ?_
    refine ax_const (q := 20) (v := am_I 0) rfl rfl rfl ?_
    refine ax_store (q := 22) (L' := [some (am_R t), some (am_I ((s : Nat) : Int)), some (am_I z), some (am_I (((mx_ T s z o) : Nat) : Int)), some (am_I ((o : Nat) : Int)), some (am_I 0), some (am_I 0), x7]) rfl rfl rfl rfl rfl rfl ?_
    refine xl_most2 hd hX hV hs8 hz (by omega) (fun y6 y7 => ?_) (nO_ T) 0 _ (by omega)
    refine ax_load (q := 88) rfl rfl rfl rfl rfl ?_
    refine ax_const (q := 89) (v := am_I 1) rfl rfl rfl ?_
    refine ax_load (q := 91) rfl rfl rfl rfl rfl ?_
    refine ax_ishl (q := 92) (z := ((2 ^ o : Nat) : Int)) rfl rfl (am_shl1 o (by omega)) ?_
    refine ax_iand (q := 93) (z := ((s &&& 2 ^ o : Nat) : Int)) rfl rfl (am_and_nat (by omega) (by omega)) ?_
    refine ax_if_eq (q := 96) (x := 105) rfl rfl (fun h93 => ?_) (fun h93 => ?_)
    · have hbt : s.testBit o = false := by
        cases w : s.testBit o with
        | false => rfl
        | true => exfalso; rw [land_2, w] at h93; have := Nat.two_pow_pos o; rw [if_pos rfl] at h93; omega
      refine ax_load (q := 106) rfl rfl rfl rfl rfl ?_
      refine ax_store (q := 107) (L' := [some (am_R t), some (am_I ((s : Nat) : Int)), some (am_I z), some (am_I (((mx_ T s z o) : Nat) : Int)), some (am_I ((o : Nat) : Int)), some (am_I (((ct_ (nO_ T) (cq2_ T s z o)) : Nat) : Int)), y6, y7]) rfl rfl rfl rfl rfl rfl ?_
      refine ax_iinc (q := 110) (z' := ((o + 1 : Nat) : Int)) (L' := [some (am_R t), some (am_I ((s : Nat) : Int)), some (am_I z), some (am_I (((mx_ T s z o) : Nat) : Int)), some (am_I ((o + 1 : Nat) : Int)), some (am_I (((ct_ (nO_ T) (cq2_ T s z o)) : Nat) : Int)), y6, y7]) rfl rfl rfl rfl (am_we (by omega) (by omega) (by omega)) rfl ?_
      refine ax_goto (x := 5) rfl ?_
      rw [hbt] at hmx
      have g := ih (o + 1) (some (am_I (((ct_ (nO_ T) (cq2_ T s z o)) : Nat) : Int))) (y6) (y7) (by omega)
      rw [hmx] at g
      exact g
    · have hbt : s.testBit o = true := by
        cases w : s.testBit o with
        | true => rfl
        | false => exfalso; rw [land_2, w] at h93; exact h93 rfl
      refine ax_load (q := 97) rfl rfl rfl rfl rfl ?_
      refine ax_load (q := 99) rfl rfl rfl rfl rfl ?_
      refine ax_max (q := 102) (z := ((if mx_ T s z o < ct_ (nO_ T) (cq2_ T s z o) then ct_ (nO_ T) (cq2_ T s z o) else mx_ T s z o : Nat) : Int)) rfl rfl rfl (by split <;> split <;> omega) ?_
      refine ax_goto (x := 106) rfl ?_
      refine ax_store (q := 107) (L' := [some (am_R t), some (am_I ((s : Nat) : Int)), some (am_I z), some (am_I ((if mx_ T s z o < ct_ (nO_ T) (cq2_ T s z o) then ct_ (nO_ T) (cq2_ T s z o) else mx_ T s z o : Nat) : Int)), some (am_I ((o : Nat) : Int)), some (am_I (((ct_ (nO_ T) (cq2_ T s z o)) : Nat) : Int)), y6, y7]) rfl rfl rfl rfl rfl rfl ?_
      refine ax_iinc (q := 110) (z' := ((o + 1 : Nat) : Int)) (L' := [some (am_R t), some (am_I ((s : Nat) : Int)), some (am_I z), some (am_I ((if mx_ T s z o < ct_ (nO_ T) (cq2_ T s z o) then ct_ (nO_ T) (cq2_ T s z o) else mx_ T s z o : Nat) : Int)), some (am_I ((o + 1 : Nat) : Int)), some (am_I (((ct_ (nO_ T) (cq2_ T s z o)) : Nat) : Int)), y6, y7]) rfl rfl rfl rfl (am_we (by omega) (by omega) (by omega)) rfl ?_
      refine ax_goto (x := 5) rfl ?_
      rw [hbt] at hmx
      have g := ih (o + 1) (some (am_I (((ct_ (nO_ T) (cq2_ T s z o)) : Nat) : Int))) (y6) (y7) (by omega)
      rw [hmx] at g
      exact g

theorem x_mostLeft {d : Nat} (hd : 2 ≤ d) {σ : am_S} {t : Nat} {T : sp_T} (hX : XT_ t T σ) (hV : TV_ T) {s : Nat} (hs8 : s < 256) {z : Int} (hz : z = 0 ∨ z = 1 ∨ z = 2) {Q : Option am_V → am_S → Prop} (hQ : Q (some (am_I ((ml_ T s z 10 : Nat) : Int))) σ) : am_Ev d 86 [am_R t, am_I ((s : Nat) : Int), am_I z] σ Q := by
  obtain ⟨d, rfl⟩ : ∃ e, d = e + 1 := ⟨d - 1, by omega⟩
  refine ev_in (m := 86) (c := k_X6_mostLeft) (L := [some (am_R t), some (am_I ((s : Nat) : Int)), some (am_I z), none, none, none, none, none]) rfl rfl rfl rfl rfl rfl ?_
  refine ax_const (q := 1) (v := am_I 0) rfl rfl rfl ?_
  refine ax_store (q := 2) (L' := [some (am_R t), some (am_I ((s : Nat) : Int)), some (am_I z), some (am_I 0), none, none, none, none]) rfl rfl rfl rfl rfl rfl ?_
  refine ax_const (q := 3) (v := am_I 0) rfl rfl rfl ?_
  refine ax_store (q := 5) (L' := [some (am_R t), some (am_I ((s : Nat) : Int)), some (am_I z), some (am_I 0), some (am_I 0), none, none, none]) rfl rfl rfl rfl rfl rfl ?_
  exact xl_most1 (by omega) hX hV hs8 hz hQ (nO_ T) 0 _ _ _ (by omega)

theorem x_ask {d : Nat} (hd : 4 ≤ d) {σ : am_S} {t : Nat} {T : sp_T} {v : sp_V} (hL : PL_ 68 t T v σ) (hV : TV_ T) {G : Nat → Nat → Int} {n : Nat} (hS : XS_ G n σ) {a c k : Int} {Q : Option am_V → am_S → Prop} (hQ : Q (some (am_I (F_ask T G n a c k))) σ) : am_Ev d 135 [am_R 0, am_I a, am_I c, am_I k] σ Q := by
  obtain ⟨d, rfl⟩ : ∃ e, d = e + 1 := ⟨d - 1, by omega⟩
  have h6 := hV.nP
  have hO8 := hV.nO
  have hS4 := hV.nS
  have hR3 := hV.nR
  refine ev_in (m := 135) (c := k_X8_ask) (L := [some (am_R 0), some (am_I a), some (am_I c), some (am_I k), none, none, none, none, none]) rfl rfl rfl rfl rfl rfl ?_
  refine ax_load (q := 1) rfl rfl rfl rfl rfl ?_
  refine ax_getf (q := 4) (v := am_R 68) rfl rfl (rfl) ?_
  refine ax_getf (q := 7) (v := am_R t) rfl rfl (am_fgR rfl hL.to) ?_
  refine ax_const (q := 8) (v := am_I 0) rfl rfl rfl ?_
  refine ax_load (q := 9) rfl rfl rfl rfl rfl ?_
  refine ax_callv (q := 12) rfl rfl rfl rfl rfl (kd_0 hL.ht) ?_
  refine x_has0 (by omega) hL.xt hV ?_
  rw [hs_i]
  refine ax_if_ne (q := 15) (x := 17) rfl rfl (fun h12 => ?_) (fun h12 => ?_)
  · have hb12 := it_n0 h12
    obtain ⟨p, rfl, hp⟩ := inr_t hb12
    refine ax_load (q := 18) rfl rfl rfl rfl rfl ?_
    refine ax_getf (q := 21) (v := am_R 127) rfl rfl (rfl) ?_
    refine ax_load (q := 22) rfl rfl rfl rfl rfl ?_
    refine ax_getf (q := 25) (v := am_R 68) rfl rfl (rfl) ?_
    refine ax_getf (q := 28) (v := am_R t) rfl rfl (am_fgR rfl hL.to) ?_
    refine ax_load (q := 29) rfl rfl rfl rfl rfl ?_
    refine ax_load (q := 30) rfl rfl rfl rfl rfl ?_
    refine ax_callv (q := 33) rfl rfl rfl rfl rfl rfl ?_
    have hms : ms_ T G n p k < 2 ^ nO_ T := bi_lt _ _
    have h28 : 2 ^ nO_ T ≤ 2 ^ 8 := Nat.pow_le_pow_right (by decide) (by omega)
    have l0 := ml_le T (ms_ T G n p k) 0 10
    have l1 := ml_le T (ms_ T G n p k) 1 10
    have l2 := ml_le T (ms_ T G n p k) 2 10
    refine x_fitting (by omega) hL.xt hV hS hp ?_
    refine ax_store (q := 35) (L' := [some (am_R 0), some (am_I ((p : Nat) : Int)), some (am_I c), some (am_I k), some (am_I (((ms_ T G n p k) : Nat) : Int)), none, none, none, none]) rfl rfl rfl rfl rfl rfl ?_
    refine ax_load (q := 37) rfl rfl rfl rfl rfl ?_
    refine ax_if_ne (q := 40) (x := 42) rfl rfl (fun h37 => ?_) (fun h37 => ?_)
    · refine ax_const (q := 43) (v := am_I 0) rfl rfl rfl ?_
      refine ax_store (q := 45) (L' := [some (am_R 0), some (am_I ((p : Nat) : Int)), some (am_I c), some (am_I k), some (am_I (((ms_ T G n p k) : Nat) : Int)), some (am_I 0), none, none, none]) rfl rfl rfl rfl rfl rfl ?_
      refine ax_const (q := 47) (v := am_I 9) rfl rfl rfl ?_
      refine ax_store (q := 49) (L' := [some (am_R 0), some (am_I ((p : Nat) : Int)), some (am_I c), some (am_I k), some (am_I (((ms_ T G n p k) : Nat) : Int)), some (am_I 0), some (am_I 9), none, none]) rfl rfl rfl rfl rfl rfl ?_
      refine ax_const (q := 50) (v := am_I 0) rfl rfl rfl ?_
      refine ax_store (q := 52) (L' := [some (am_R 0), some (am_I ((p : Nat) : Int)), some (am_I c), some (am_I k), some (am_I (((ms_ T G n p k) : Nat) : Int)), some (am_I 0), some (am_I 9), some (am_I 0), none]) rfl rfl rfl rfl rfl rfl ?_
      refine ax_load (q := 54) rfl rfl rfl rfl rfl ?_
      refine ax_const (q := 55) (v := am_I 3) rfl rfl rfl ?_
      refine ax_icmp_ge (q := 58) (x := 95) rfl rfl (fun h => absurd h (by omega)) (fun h55 => ?_)
      refine ax_load (q := 59) rfl rfl rfl rfl rfl ?_
      refine ax_getf (q := 62) (v := am_R 68) rfl rfl (rfl) ?_
      refine ax_getf (q := 65) (v := am_R t) rfl rfl (am_fgR rfl hL.to) ?_
      refine ax_load (q := 67) rfl rfl rfl rfl rfl ?_
      refine ax_load (q := 69) rfl rfl rfl rfl rfl ?_
      refine ax_calls (q := 72) rfl rfl rfl rfl rfl ?_
      refine x_mostLeft (z := 0) (by omega) hL.xt hV (by omega) (by decide) ?_
      refine ax_store (q := 74) (L' := [some (am_R 0), some (am_I ((p : Nat) : Int)), some (am_I c), some (am_I k), some (am_I (((ms_ T G n p k) : Nat) : Int)), some (am_I 0), some (am_I 9), some (am_I 0), some (am_I (((ml_ T (ms_ T G n p k) 0 10) : Nat) : Int))]) rfl rfl rfl rfl rfl rfl ?_
      refine ax_load (q := 76) rfl rfl rfl rfl rfl ?_
      refine ax_load (q := 78) rfl rfl rfl rfl rfl ?_
      refine ax_icmp_ge (q := 81) (x := 89) rfl rfl (fun h78 => ?_) (fun h78 => ?_)
      · refine ax_iinc (q := 92) (z' := ((1 : Nat) : Int)) (L' := [some (am_R 0), some (am_I ((p : Nat) : Int)), some (am_I c), some (am_I k), some (am_I (((ms_ T G n p k) : Nat) : Int)), some (am_I 0), some (am_I 9), some (am_I ((1 : Nat) : Int)), some (am_I (((ml_ T (ms_ T G n p k) 0 10) : Nat) : Int))]) rfl rfl rfl rfl (am_we (by omega) (by omega) (by omega)) rfl ?_
        refine ax_goto (x := 52) rfl ?_
        refine ax_load (q := 54) rfl rfl rfl rfl rfl ?_
        refine ax_const (q := 55) (v := am_I 3) rfl rfl rfl ?_
        refine ax_icmp_ge (q := 58) (x := 95) rfl rfl (fun h => absurd h (by omega)) (fun h55 => ?_)
        refine ax_load (q := 59) rfl rfl rfl rfl rfl ?_
        refine ax_getf (q := 62) (v := am_R 68) rfl rfl (rfl) ?_
        refine ax_getf (q := 65) (v := am_R t) rfl rfl (am_fgR rfl hL.to) ?_
        refine ax_load (q := 67) rfl rfl rfl rfl rfl ?_
        refine ax_load (q := 69) rfl rfl rfl rfl rfl ?_
        refine ax_calls (q := 72) rfl rfl rfl rfl rfl ?_
        refine x_mostLeft (z := 1) (by omega) hL.xt hV (by omega) (by decide) ?_
        refine ax_store (q := 74) (L' := [some (am_R 0), some (am_I ((p : Nat) : Int)), some (am_I c), some (am_I k), some (am_I (((ms_ T G n p k) : Nat) : Int)), some (am_I 0), some (am_I 9), some (am_I ((1 : Nat) : Int)), some (am_I (((ml_ T (ms_ T G n p k) 1 10) : Nat) : Int))]) rfl rfl rfl rfl rfl rfl ?_
        refine ax_load (q := 76) rfl rfl rfl rfl rfl ?_
        refine ax_load (q := 78) rfl rfl rfl rfl rfl ?_
        refine ax_icmp_ge (q := 81) (x := 89) rfl rfl (fun h78 => ?_) (fun h78 => ?_)
        · refine ax_iinc (q := 92) (z' := ((2 : Nat) : Int)) (L' := [some (am_R 0), some (am_I ((p : Nat) : Int)), some (am_I c), some (am_I k), some (am_I (((ms_ T G n p k) : Nat) : Int)), some (am_I 0), some (am_I 9), some (am_I ((2 : Nat) : Int)), some (am_I (((ml_ T (ms_ T G n p k) 1 10) : Nat) : Int))]) rfl rfl rfl rfl (am_we (by omega) (by omega) (by omega)) rfl ?_
          refine ax_goto (x := 52) rfl ?_
          refine ax_load (q := 54) rfl rfl rfl rfl rfl ?_
          refine ax_const (q := 55) (v := am_I 3) rfl rfl rfl ?_
          refine ax_icmp_ge (q := 58) (x := 95) rfl rfl (fun h => absurd h (by omega)) (fun h55 => ?_)
          refine ax_load (q := 59) rfl rfl rfl rfl rfl ?_
          refine ax_getf (q := 62) (v := am_R 68) rfl rfl (rfl) ?_
          refine ax_getf (q := 65) (v := am_R t) rfl rfl (am_fgR rfl hL.to) ?_
          refine ax_load (q := 67) rfl rfl rfl rfl rfl ?_
          refine ax_load (q := 69) rfl rfl rfl rfl rfl ?_
          refine ax_calls (q := 72) rfl rfl rfl rfl rfl ?_
          refine x_mostLeft (z := 2) (by omega) hL.xt hV (by omega) (by decide) ?_
          refine ax_store (q := 74) (L' := [some (am_R 0), some (am_I ((p : Nat) : Int)), some (am_I c), some (am_I k), some (am_I (((ms_ T G n p k) : Nat) : Int)), some (am_I 0), some (am_I 9), some (am_I ((2 : Nat) : Int)), some (am_I (((ml_ T (ms_ T G n p k) 2 10) : Nat) : Int))]) rfl rfl rfl rfl rfl rfl ?_
          refine ax_load (q := 76) rfl rfl rfl rfl rfl ?_
          refine ax_load (q := 78) rfl rfl rfl rfl rfl ?_
          refine ax_icmp_ge (q := 81) (x := 89) rfl rfl (fun h78 => ?_) (fun h78 => ?_)
          · refine ax_iinc (q := 92) (z' := ((3 : Nat) : Int)) (L' := [some (am_R 0), some (am_I ((p : Nat) : Int)), some (am_I c), some (am_I k), some (am_I (((ms_ T G n p k) : Nat) : Int)), some (am_I 0), some (am_I 9), some (am_I ((3 : Nat) : Int)), some (am_I (((ml_ T (ms_ T G n p k) 2 10) : Nat) : Int))]) rfl rfl rfl rfl (am_we (by omega) (by omega) (by omega)) rfl ?_
            refine ax_goto (x := 52) rfl ?_
            refine ax_load (q := 54) rfl rfl rfl rfl rfl ?_
            refine ax_const (q := 55) (v := am_I 3) rfl rfl rfl ?_
            refine ax_icmp_ge (q := 58) (x := 95) rfl rfl (fun h55 => ?_) (fun h => absurd h (by omega))
            refine ax_load (q := 96) rfl rfl rfl rfl rfl ?_
            refine ax_load (q := 98) rfl rfl rfl rfl rfl ?_
            refine ax_load (q := 100) rfl rfl rfl rfl rfl ?_
            refine ax_calls (q := 103) rfl rfl rfl rfl rfl ?_
            refine x_chosen (by omega) ?_
            exfalso
            omega
          · refine ax_load (q := 83) rfl rfl rfl rfl rfl ?_
            refine ax_store (q := 85) (L' := [some (am_R 0), some (am_I ((p : Nat) : Int)), some (am_I c), some (am_I k), some (am_I (((ms_ T G n p k) : Nat) : Int)), some (am_I ((2 : Nat) : Int)), some (am_I 9), some (am_I ((2 : Nat) : Int)), some (am_I (((ml_ T (ms_ T G n p k) 2 10) : Nat) : Int))]) rfl rfl rfl rfl rfl rfl ?_
            refine ax_load (q := 87) rfl rfl rfl rfl rfl ?_
            refine ax_store (q := 89) (L' := [some (am_R 0), some (am_I ((p : Nat) : Int)), some (am_I c), some (am_I k), some (am_I (((ms_ T G n p k) : Nat) : Int)), some (am_I ((2 : Nat) : Int)), some (am_I (((ml_ T (ms_ T G n p k) 2 10) : Nat) : Int)), some (am_I ((2 : Nat) : Int)), some (am_I (((ml_ T (ms_ T G n p k) 2 10) : Nat) : Int))]) rfl rfl rfl rfl rfl rfl ?_
            refine ax_iinc (q := 92) (z' := ((3 : Nat) : Int)) (L' := [some (am_R 0), some (am_I ((p : Nat) : Int)), some (am_I c), some (am_I k), some (am_I (((ms_ T G n p k) : Nat) : Int)), some (am_I ((2 : Nat) : Int)), some (am_I (((ml_ T (ms_ T G n p k) 2 10) : Nat) : Int)), some (am_I ((3 : Nat) : Int)), some (am_I (((ml_ T (ms_ T G n p k) 2 10) : Nat) : Int))]) rfl rfl rfl rfl (am_we (by omega) (by omega) (by omega)) rfl ?_
            refine ax_goto (x := 52) rfl ?_
            refine ax_load (q := 54) rfl rfl rfl rfl rfl ?_
            refine ax_const (q := 55) (v := am_I 3) rfl rfl rfl ?_
            refine ax_icmp_ge (q := 58) (x := 95) rfl rfl (fun h55 => ?_) (fun h => absurd h (by omega))
            refine ax_load (q := 96) rfl rfl rfl rfl rfl ?_
            refine ax_load (q := 98) rfl rfl rfl rfl rfl ?_
            refine ax_load (q := 100) rfl rfl rfl rfl rfl ?_
            refine ax_calls (q := 103) rfl rfl rfl rfl rfl ?_
            refine x_chosen (by omega) ?_
            refine ax_ret (r := some (am_I (if c = 0 then ((2 : Nat) : Int) else if c = 1 then (((ml_ T (ms_ T G n p k) 2 10) : Nat) : Int) else -1))) rfl rfl ?_
            refine Eq.mp (congrArg (fun z => Q (some (am_I z)) _) ?_) hQ
            unfold F_ask
            have e0 : F_meant T G n (p : Int) k = ((ms_ T G n p k : Nat) : Int) := by unfold F_meant; rw [hb12, Int.toNat_natCast]; rfl
            rw [e0, show decide (0 < ((ms_ T G n p k : Nat) : Int)) = true from decide_eq_true (by omega), Bool.and_true, Int.toNat_natCast]
            have eab : ab_ T (ms_ T G n p k) = 2 := by rw [ab_eq]; (repeat' split) <;> first | rfl | omega
            rw [eab]
            by_cases q0 : c = 0
            · simp [q0]
            · by_cases q1 : c = 1
              · simp [q1]; try rfl
              · simp [q0, q1, show ¬ (0 ≤ c ∧ c ≤ 1) by omega]
        · refine ax_load (q := 83) rfl rfl rfl rfl rfl ?_
          refine ax_store (q := 85) (L' := [some (am_R 0), some (am_I ((p : Nat) : Int)), some (am_I c), some (am_I k), some (am_I (((ms_ T G n p k) : Nat) : Int)), some (am_I ((1 : Nat) : Int)), some (am_I 9), some (am_I ((1 : Nat) : Int)), some (am_I (((ml_ T (ms_ T G n p k) 1 10) : Nat) : Int))]) rfl rfl rfl rfl rfl rfl ?_
          refine ax_load (q := 87) rfl rfl rfl rfl rfl ?_
          refine ax_store (q := 89) (L' := [some (am_R 0), some (am_I ((p : Nat) : Int)), some (am_I c), some (am_I k), some (am_I (((ms_ T G n p k) : Nat) : Int)), some (am_I ((1 : Nat) : Int)), some (am_I (((ml_ T (ms_ T G n p k) 1 10) : Nat) : Int)), some (am_I ((1 : Nat) : Int)), some (am_I (((ml_ T (ms_ T G n p k) 1 10) : Nat) : Int))]) rfl rfl rfl rfl rfl rfl ?_
          refine ax_iinc (q := 92) (z' := ((2 : Nat) : Int)) (L' := [some (am_R 0), some (am_I ((p : Nat) : Int)), some (am_I c), some (am_I k), some (am_I (((ms_ T G n p k) : Nat) : Int)), some (am_I ((1 : Nat) : Int)), some (am_I (((ml_ T (ms_ T G n p k) 1 10) : Nat) : Int)), some (am_I ((2 : Nat) : Int)), some (am_I (((ml_ T (ms_ T G n p k) 1 10) : Nat) : Int))]) rfl rfl rfl rfl (am_we (by omega) (by omega) (by omega)) rfl ?_
          refine ax_goto (x := 52) rfl ?_
          refine ax_load (q := 54) rfl rfl rfl rfl rfl ?_
          refine ax_const (q := 55) (v := am_I 3) rfl rfl rfl ?_
          refine ax_icmp_ge (q := 58) (x := 95) rfl rfl (fun h => absurd h (by omega)) (fun h55 => ?_)
          refine ax_load (q := 59) rfl rfl rfl rfl rfl ?_
          refine ax_getf (q := 62) (v := am_R 68) rfl rfl (rfl) ?_
          refine ax_getf (q := 65) (v := am_R t) rfl rfl (am_fgR rfl hL.to) ?_
          refine ax_load (q := 67) rfl rfl rfl rfl rfl ?_
          refine ax_load (q := 69) rfl rfl rfl rfl rfl ?_
          refine ax_calls (q := 72) rfl rfl rfl rfl rfl ?_
          refine x_mostLeft (z := 2) (by omega) hL.xt hV (by omega) (by decide) ?_
          refine ax_store (q := 74) (L' := [some (am_R 0), some (am_I ((p : Nat) : Int)), some (am_I c), some (am_I k), some (am_I (((ms_ T G n p k) : Nat) : Int)), some (am_I ((1 : Nat) : Int)), some (am_I (((ml_ T (ms_ T G n p k) 1 10) : Nat) : Int)), some (am_I ((2 : Nat) : Int)), some (am_I (((ml_ T (ms_ T G n p k) 2 10) : Nat) : Int))]) rfl rfl rfl rfl rfl rfl ?_
          refine ax_load (q := 76) rfl rfl rfl rfl rfl ?_
          refine ax_load (q := 78) rfl rfl rfl rfl rfl ?_
          refine ax_icmp_ge (q := 81) (x := 89) rfl rfl (fun h78 => ?_) (fun h78 => ?_)
          · refine ax_iinc (q := 92) (z' := ((3 : Nat) : Int)) (L' := [some (am_R 0), some (am_I ((p : Nat) : Int)), some (am_I c), some (am_I k), some (am_I (((ms_ T G n p k) : Nat) : Int)), some (am_I ((1 : Nat) : Int)), some (am_I (((ml_ T (ms_ T G n p k) 1 10) : Nat) : Int)), some (am_I ((3 : Nat) : Int)), some (am_I (((ml_ T (ms_ T G n p k) 2 10) : Nat) : Int))]) rfl rfl rfl rfl (am_we (by omega) (by omega) (by omega)) rfl ?_
            refine ax_goto (x := 52) rfl ?_
            refine ax_load (q := 54) rfl rfl rfl rfl rfl ?_
            refine ax_const (q := 55) (v := am_I 3) rfl rfl rfl ?_
            refine ax_icmp_ge (q := 58) (x := 95) rfl rfl (fun h55 => ?_) (fun h => absurd h (by omega))
            refine ax_load (q := 96) rfl rfl rfl rfl rfl ?_
            refine ax_load (q := 98) rfl rfl rfl rfl rfl ?_
            refine ax_load (q := 100) rfl rfl rfl rfl rfl ?_
            refine ax_calls (q := 103) rfl rfl rfl rfl rfl ?_
            refine x_chosen (by omega) ?_
            refine ax_ret (r := some (am_I (if c = 0 then ((1 : Nat) : Int) else if c = 1 then (((ml_ T (ms_ T G n p k) 1 10) : Nat) : Int) else -1))) rfl rfl ?_
            refine Eq.mp (congrArg (fun z => Q (some (am_I z)) _) ?_) hQ
            unfold F_ask
            have e0 : F_meant T G n (p : Int) k = ((ms_ T G n p k : Nat) : Int) := by unfold F_meant; rw [hb12, Int.toNat_natCast]; rfl
            rw [e0, show decide (0 < ((ms_ T G n p k : Nat) : Int)) = true from decide_eq_true (by omega), Bool.and_true, Int.toNat_natCast]
            have eab : ab_ T (ms_ T G n p k) = 1 := by rw [ab_eq]; (repeat' split) <;> first | rfl | omega
            rw [eab]
            by_cases q0 : c = 0
            · simp [q0]
            · by_cases q1 : c = 1
              · simp [q1]; try rfl
              · simp [q0, q1, show ¬ (0 ≤ c ∧ c ≤ 1) by omega]
          · refine ax_load (q := 83) rfl rfl rfl rfl rfl ?_
            refine ax_store (q := 85) (L' := [some (am_R 0), some (am_I ((p : Nat) : Int)), some (am_I c), some (am_I k), some (am_I (((ms_ T G n p k) : Nat) : Int)), some (am_I ((2 : Nat) : Int)), some (am_I (((ml_ T (ms_ T G n p k) 1 10) : Nat) : Int)), some (am_I ((2 : Nat) : Int)), some (am_I (((ml_ T (ms_ T G n p k) 2 10) : Nat) : Int))]) rfl rfl rfl rfl rfl rfl ?_
            refine ax_load (q := 87) rfl rfl rfl rfl rfl ?_
            refine ax_store (q := 89) (L' := [some (am_R 0), some (am_I ((p : Nat) : Int)), some (am_I c), some (am_I k), some (am_I (((ms_ T G n p k) : Nat) : Int)), some (am_I ((2 : Nat) : Int)), some (am_I (((ml_ T (ms_ T G n p k) 2 10) : Nat) : Int)), some (am_I ((2 : Nat) : Int)), some (am_I (((ml_ T (ms_ T G n p k) 2 10) : Nat) : Int))]) rfl rfl rfl rfl rfl rfl ?_
            refine ax_iinc (q := 92) (z' := ((3 : Nat) : Int)) (L' := [some (am_R 0), some (am_I ((p : Nat) : Int)), some (am_I c), some (am_I k), some (am_I (((ms_ T G n p k) : Nat) : Int)), some (am_I ((2 : Nat) : Int)), some (am_I (((ml_ T (ms_ T G n p k) 2 10) : Nat) : Int)), some (am_I ((3 : Nat) : Int)), some (am_I (((ml_ T (ms_ T G n p k) 2 10) : Nat) : Int))]) rfl rfl rfl rfl (am_we (by omega) (by omega) (by omega)) rfl ?_
            refine ax_goto (x := 52) rfl ?_
            refine ax_load (q := 54) rfl rfl rfl rfl rfl ?_
            refine ax_const (q := 55) (v := am_I 3) rfl rfl rfl ?_
            refine ax_icmp_ge (q := 58) (x := 95) rfl rfl (fun h55 => ?_) (fun h => absurd h (by omega))
            refine ax_load (q := 96) rfl rfl rfl rfl rfl ?_
            refine ax_load (q := 98) rfl rfl rfl rfl rfl ?_
            refine ax_load (q := 100) rfl rfl rfl rfl rfl ?_
            refine ax_calls (q := 103) rfl rfl rfl rfl rfl ?_
            refine x_chosen (by omega) ?_
            refine ax_ret (r := some (am_I (if c = 0 then ((2 : Nat) : Int) else if c = 1 then (((ml_ T (ms_ T G n p k) 2 10) : Nat) : Int) else -1))) rfl rfl ?_
            refine Eq.mp (congrArg (fun z => Q (some (am_I z)) _) ?_) hQ
            unfold F_ask
            have e0 : F_meant T G n (p : Int) k = ((ms_ T G n p k : Nat) : Int) := by unfold F_meant; rw [hb12, Int.toNat_natCast]; rfl
            rw [e0, show decide (0 < ((ms_ T G n p k : Nat) : Int)) = true from decide_eq_true (by omega), Bool.and_true, Int.toNat_natCast]
            have eab : ab_ T (ms_ T G n p k) = 2 := by rw [ab_eq]; (repeat' split) <;> first | rfl | omega
            rw [eab]
            by_cases q0 : c = 0
            · simp [q0]
            · by_cases q1 : c = 1
              · simp [q1]; try rfl
              · simp [q0, q1, show ¬ (0 ≤ c ∧ c ≤ 1) by omega]
      · refine ax_load (q := 83) rfl rfl rfl rfl rfl ?_
        refine ax_store (q := 85) (L' := [some (am_R 0), some (am_I ((p : Nat) : Int)), some (am_I c), some (am_I k), some (am_I (((ms_ T G n p k) : Nat) : Int)), some (am_I 0), some (am_I 9), some (am_I 0), some (am_I (((ml_ T (ms_ T G n p k) 0 10) : Nat) : Int))]) rfl rfl rfl rfl rfl rfl ?_
        refine ax_load (q := 87) rfl rfl rfl rfl rfl ?_
        refine ax_store (q := 89) (L' := [some (am_R 0), some (am_I ((p : Nat) : Int)), some (am_I c), some (am_I k), some (am_I (((ms_ T G n p k) : Nat) : Int)), some (am_I 0), some (am_I (((ml_ T (ms_ T G n p k) 0 10) : Nat) : Int)), some (am_I 0), some (am_I (((ml_ T (ms_ T G n p k) 0 10) : Nat) : Int))]) rfl rfl rfl rfl rfl rfl ?_
        refine ax_iinc (q := 92) (z' := ((1 : Nat) : Int)) (L' := [some (am_R 0), some (am_I ((p : Nat) : Int)), some (am_I c), some (am_I k), some (am_I (((ms_ T G n p k) : Nat) : Int)), some (am_I 0), some (am_I (((ml_ T (ms_ T G n p k) 0 10) : Nat) : Int)), some (am_I ((1 : Nat) : Int)), some (am_I (((ml_ T (ms_ T G n p k) 0 10) : Nat) : Int))]) rfl rfl rfl rfl (am_we (by omega) (by omega) (by omega)) rfl ?_
        refine ax_goto (x := 52) rfl ?_
        refine ax_load (q := 54) rfl rfl rfl rfl rfl ?_
        refine ax_const (q := 55) (v := am_I 3) rfl rfl rfl ?_
        refine ax_icmp_ge (q := 58) (x := 95) rfl rfl (fun h => absurd h (by omega)) (fun h55 => ?_)
        refine ax_load (q := 59) rfl rfl rfl rfl rfl ?_
        refine ax_getf (q := 62) (v := am_R 68) rfl rfl (rfl) ?_
        refine ax_getf (q := 65) (v := am_R t) rfl rfl (am_fgR rfl hL.to) ?_
        refine ax_load (q := 67) rfl rfl rfl rfl rfl ?_
        refine ax_load (q := 69) rfl rfl rfl rfl rfl ?_
        refine ax_calls (q := 72) rfl rfl rfl rfl rfl ?_
        refine x_mostLeft (z := 1) (by omega) hL.xt hV (by omega) (by decide) ?_
        refine ax_store (q := 74) (L' := [some (am_R 0), some (am_I ((p : Nat) : Int)), some (am_I c), some (am_I k), some (am_I (((ms_ T G n p k) : Nat) : Int)), some (am_I 0), some (am_I (((ml_ T (ms_ T G n p k) 0 10) : Nat) : Int)), some (am_I ((1 : Nat) : Int)), some (am_I (((ml_ T (ms_ T G n p k) 1 10) : Nat) : Int))]) rfl rfl rfl rfl rfl rfl ?_
        refine ax_load (q := 76) rfl rfl rfl rfl rfl ?_
        refine ax_load (q := 78) rfl rfl rfl rfl rfl ?_
        refine ax_icmp_ge (q := 81) (x := 89) rfl rfl (fun h78 => ?_) (fun h78 => ?_)
        · refine ax_iinc (q := 92) (z' := ((2 : Nat) : Int)) (L' := [some (am_R 0), some (am_I ((p : Nat) : Int)), some (am_I c), some (am_I k), some (am_I (((ms_ T G n p k) : Nat) : Int)), some (am_I 0), some (am_I (((ml_ T (ms_ T G n p k) 0 10) : Nat) : Int)), some (am_I ((2 : Nat) : Int)), some (am_I (((ml_ T (ms_ T G n p k) 1 10) : Nat) : Int))]) rfl rfl rfl rfl (am_we (by omega) (by omega) (by omega)) rfl ?_
          refine ax_goto (x := 52) rfl ?_
          refine ax_load (q := 54) rfl rfl rfl rfl rfl ?_
          refine ax_const (q := 55) (v := am_I 3) rfl rfl rfl ?_
          refine ax_icmp_ge (q := 58) (x := 95) rfl rfl (fun h => absurd h (by omega)) (fun h55 => ?_)
          refine ax_load (q := 59) rfl rfl rfl rfl rfl ?_
          refine ax_getf (q := 62) (v := am_R 68) rfl rfl (rfl) ?_
          refine ax_getf (q := 65) (v := am_R t) rfl rfl (am_fgR rfl hL.to) ?_
          refine ax_load (q := 67) rfl rfl rfl rfl rfl ?_
          refine ax_load (q := 69) rfl rfl rfl rfl rfl ?_
          refine ax_calls (q := 72) rfl rfl rfl rfl rfl ?_
          refine x_mostLeft (z := 2) (by omega) hL.xt hV (by omega) (by decide) ?_
          refine ax_store (q := 74) (L' := [some (am_R 0), some (am_I ((p : Nat) : Int)), some (am_I c), some (am_I k), some (am_I (((ms_ T G n p k) : Nat) : Int)), some (am_I 0), some (am_I (((ml_ T (ms_ T G n p k) 0 10) : Nat) : Int)), some (am_I ((2 : Nat) : Int)), some (am_I (((ml_ T (ms_ T G n p k) 2 10) : Nat) : Int))]) rfl rfl rfl rfl rfl rfl ?_
          refine ax_load (q := 76) rfl rfl rfl rfl rfl ?_
          refine ax_load (q := 78) rfl rfl rfl rfl rfl ?_
          refine ax_icmp_ge (q := 81) (x := 89) rfl rfl (fun h78 => ?_) (fun h78 => ?_)
          · refine ax_iinc (q := 92) (z' := ((3 : Nat) : Int)) (L' := [some (am_R 0), some (am_I ((p : Nat) : Int)), some (am_I c), some (am_I k), some (am_I (((ms_ T G n p k) : Nat) : Int)), some (am_I 0), some (am_I (((ml_ T (ms_ T G n p k) 0 10) : Nat) : Int)), some (am_I ((3 : Nat) : Int)), some (am_I (((ml_ T (ms_ T G n p k) 2 10) : Nat) : Int))]) rfl rfl rfl rfl (am_we (by omega) (by omega) (by omega)) rfl ?_
            refine ax_goto (x := 52) rfl ?_
            refine ax_load (q := 54) rfl rfl rfl rfl rfl ?_
            refine ax_const (q := 55) (v := am_I 3) rfl rfl rfl ?_
            refine ax_icmp_ge (q := 58) (x := 95) rfl rfl (fun h55 => ?_) (fun h => absurd h (by omega))
            refine ax_load (q := 96) rfl rfl rfl rfl rfl ?_
            refine ax_load (q := 98) rfl rfl rfl rfl rfl ?_
            refine ax_load (q := 100) rfl rfl rfl rfl rfl ?_
            refine ax_calls (q := 103) rfl rfl rfl rfl rfl ?_
            refine x_chosen (by omega) ?_
            refine ax_ret (r := some (am_I (if c = 0 then 0 else if c = 1 then (((ml_ T (ms_ T G n p k) 0 10) : Nat) : Int) else -1))) rfl rfl ?_
            refine Eq.mp (congrArg (fun z => Q (some (am_I z)) _) ?_) hQ
            unfold F_ask
            have e0 : F_meant T G n (p : Int) k = ((ms_ T G n p k : Nat) : Int) := by unfold F_meant; rw [hb12, Int.toNat_natCast]; rfl
            rw [e0, show decide (0 < ((ms_ T G n p k : Nat) : Int)) = true from decide_eq_true (by omega), Bool.and_true, Int.toNat_natCast]
            have eab : ab_ T (ms_ T G n p k) = 0 := by rw [ab_eq]; (repeat' split) <;> first | rfl | omega
            rw [eab]
            by_cases q0 : c = 0
            · simp [q0]
            · by_cases q1 : c = 1
              · simp [q1]; try rfl
              · simp [q0, q1, show ¬ (0 ≤ c ∧ c ≤ 1) by omega]
          · refine ax_load (q := 83) rfl rfl rfl rfl rfl ?_
            refine ax_store (q := 85) (L' := [some (am_R 0), some (am_I ((p : Nat) : Int)), some (am_I c), some (am_I k), some (am_I (((ms_ T G n p k) : Nat) : Int)), some (am_I ((2 : Nat) : Int)), some (am_I (((ml_ T (ms_ T G n p k) 0 10) : Nat) : Int)), some (am_I ((2 : Nat) : Int)), some (am_I (((ml_ T (ms_ T G n p k) 2 10) : Nat) : Int))]) rfl rfl rfl rfl rfl rfl ?_
            refine ax_load (q := 87) rfl rfl rfl rfl rfl ?_
            refine ax_store (q := 89) (L' := [some (am_R 0), some (am_I ((p : Nat) : Int)), some (am_I c), some (am_I k), some (am_I (((ms_ T G n p k) : Nat) : Int)), some (am_I ((2 : Nat) : Int)), some (am_I (((ml_ T (ms_ T G n p k) 2 10) : Nat) : Int)), some (am_I ((2 : Nat) : Int)), some (am_I (((ml_ T (ms_ T G n p k) 2 10) : Nat) : Int))]) rfl rfl rfl rfl rfl rfl ?_
            refine ax_iinc (q := 92) (z' := ((3 : Nat) : Int)) (L' := [some (am_R 0), some (am_I ((p : Nat) : Int)), some (am_I c), some (am_I k), some (am_I (((ms_ T G n p k) : Nat) : Int)), some (am_I ((2 : Nat) : Int)), some (am_I (((ml_ T (ms_ T G n p k) 2 10) : Nat) : Int)), some (am_I ((3 : Nat) : Int)), some (am_I (((ml_ T (ms_ T G n p k) 2 10) : Nat) : Int))]) rfl rfl rfl rfl (am_we (by omega) (by omega) (by omega)) rfl ?_
            refine ax_goto (x := 52) rfl ?_
            refine ax_load (q := 54) rfl rfl rfl rfl rfl ?_
            refine ax_const (q := 55) (v := am_I 3) rfl rfl rfl ?_
            refine ax_icmp_ge (q := 58) (x := 95) rfl rfl (fun h55 => ?_) (fun h => absurd h (by omega))
            refine ax_load (q := 96) rfl rfl rfl rfl rfl ?_
            refine ax_load (q := 98) rfl rfl rfl rfl rfl ?_
            refine ax_load (q := 100) rfl rfl rfl rfl rfl ?_
            refine ax_calls (q := 103) rfl rfl rfl rfl rfl ?_
            refine x_chosen (by omega) ?_
            refine ax_ret (r := some (am_I (if c = 0 then ((2 : Nat) : Int) else if c = 1 then (((ml_ T (ms_ T G n p k) 2 10) : Nat) : Int) else -1))) rfl rfl ?_
            refine Eq.mp (congrArg (fun z => Q (some (am_I z)) _) ?_) hQ
            unfold F_ask
            have e0 : F_meant T G n (p : Int) k = ((ms_ T G n p k : Nat) : Int) := by unfold F_meant; rw [hb12, Int.toNat_natCast]; rfl
            rw [e0, show decide (0 < ((ms_ T G n p k : Nat) : Int)) = true from decide_eq_true (by omega), Bool.and_true, Int.toNat_natCast]
            have eab : ab_ T (ms_ T G n p k) = 2 := by rw [ab_eq]; (repeat' split) <;> first | rfl | omega
            rw [eab]
            by_cases q0 : c = 0
            · simp [q0]
            · by_cases q1 : c = 1
              · simp [q1]; try rfl
              · simp [q0, q1, show ¬ (0 ≤ c ∧ c ≤ 1) by omega]
        · refine ax_load (q := 83) rfl rfl rfl rfl rfl ?_
          refine ax_store (q := 85) (L' := [some (am_R 0), some (am_I ((p : Nat) : Int)), some (am_I c), some (am_I k), some (am_I (((ms_ T G n p k) : Nat) : Int)), some (am_I ((1 : Nat) : Int)), some (am_I (((ml_ T (ms_ T G n p k) 0 10) : Nat) : Int)), some (am_I ((1 : Nat) : Int)), some (am_I (((ml_ T (ms_ T G n p k) 1 10) : Nat) : Int))]) rfl rfl rfl rfl rfl rfl ?_
          refine ax_load (q := 87) rfl rfl rfl rfl rfl ?_
          refine ax_store (q := 89) (L' := [some (am_R 0), some (am_I ((p : Nat) : Int)), some (am_I c), some (am_I k), some (am_I (((ms_ T G n p k) : Nat) : Int)), some (am_I ((1 : Nat) : Int)), some (am_I (((ml_ T (ms_ T G n p k) 1 10) : Nat) : Int)), some (am_I ((1 : Nat) : Int)), some (am_I (((ml_ T (ms_ T G n p k) 1 10) : Nat) : Int))]) rfl rfl rfl rfl rfl rfl ?_
          refine ax_iinc (q := 92) (z' := ((2 : Nat) : Int)) (L' := [some (am_R 0), some (am_I ((p : Nat) : Int)), some (am_I c), some (am_I k), some (am_I (((ms_ T G n p k) : Nat) : Int)), some (am_I ((1 : Nat) : Int)), some (am_I (((ml_ T (ms_ T G n p k) 1 10) : Nat) : Int)), some (am_I ((2 : Nat) : Int)), some (am_I (((ml_ T (ms_ T G n p k) 1 10) : Nat) : Int))]) rfl rfl rfl rfl (am_we (by omega) (by omega) (by omega)) rfl ?_
          refine ax_goto (x := 52) rfl ?_
          refine ax_load (q := 54) rfl rfl rfl rfl rfl ?_
          refine ax_const (q := 55) (v := am_I 3) rfl rfl rfl ?_
          refine ax_icmp_ge (q := 58) (x := 95) rfl rfl (fun h => absurd h (by omega)) (fun h55 => ?_)
          refine ax_load (q := 59) rfl rfl rfl rfl rfl ?_
          refine ax_getf (q := 62) (v := am_R 68) rfl rfl (rfl) ?_
          refine ax_getf (q := 65) (v := am_R t) rfl rfl (am_fgR rfl hL.to) ?_
          refine ax_load (q := 67) rfl rfl rfl rfl rfl ?_
          refine ax_load (q := 69) rfl rfl rfl rfl rfl ?_
          refine ax_calls (q := 72) rfl rfl rfl rfl rfl ?_
          refine x_mostLeft (z := 2) (by omega) hL.xt hV (by omega) (by decide) ?_
          refine ax_store (q := 74) (L' := [some (am_R 0), some (am_I ((p : Nat) : Int)), some (am_I c), some (am_I k), some (am_I (((ms_ T G n p k) : Nat) : Int)), some (am_I ((1 : Nat) : Int)), some (am_I (((ml_ T (ms_ T G n p k) 1 10) : Nat) : Int)), some (am_I ((2 : Nat) : Int)), some (am_I (((ml_ T (ms_ T G n p k) 2 10) : Nat) : Int))]) rfl rfl rfl rfl rfl rfl ?_
          refine ax_load (q := 76) rfl rfl rfl rfl rfl ?_
          refine ax_load (q := 78) rfl rfl rfl rfl rfl ?_
          refine ax_icmp_ge (q := 81) (x := 89) rfl rfl (fun h78 => ?_) (fun h78 => ?_)
          · refine ax_iinc (q := 92) (z' := ((3 : Nat) : Int)) (L' := [some (am_R 0), some (am_I ((p : Nat) : Int)), some (am_I c), some (am_I k), some (am_I (((ms_ T G n p k) : Nat) : Int)), some (am_I ((1 : Nat) : Int)), some (am_I (((ml_ T (ms_ T G n p k) 1 10) : Nat) : Int)), some (am_I ((3 : Nat) : Int)), some (am_I (((ml_ T (ms_ T G n p k) 2 10) : Nat) : Int))]) rfl rfl rfl rfl (am_we (by omega) (by omega) (by omega)) rfl ?_
            refine ax_goto (x := 52) rfl ?_
            refine ax_load (q := 54) rfl rfl rfl rfl rfl ?_
            refine ax_const (q := 55) (v := am_I 3) rfl rfl rfl ?_
            refine ax_icmp_ge (q := 58) (x := 95) rfl rfl (fun h55 => ?_) (fun h => absurd h (by omega))
            refine ax_load (q := 96) rfl rfl rfl rfl rfl ?_
            refine ax_load (q := 98) rfl rfl rfl rfl rfl ?_
            refine ax_load (q := 100) rfl rfl rfl rfl rfl ?_
            refine ax_calls (q := 103) rfl rfl rfl rfl rfl ?_
            refine x_chosen (by omega) ?_
            refine ax_ret (r := some (am_I (if c = 0 then ((1 : Nat) : Int) else if c = 1 then (((ml_ T (ms_ T G n p k) 1 10) : Nat) : Int) else -1))) rfl rfl ?_
            refine Eq.mp (congrArg (fun z => Q (some (am_I z)) _) ?_) hQ
            unfold F_ask
            have e0 : F_meant T G n (p : Int) k = ((ms_ T G n p k : Nat) : Int) := by unfold F_meant; rw [hb12, Int.toNat_natCast]; rfl
            rw [e0, show decide (0 < ((ms_ T G n p k : Nat) : Int)) = true from decide_eq_true (by omega), Bool.and_true, Int.toNat_natCast]
            have eab : ab_ T (ms_ T G n p k) = 1 := by rw [ab_eq]; (repeat' split) <;> first | rfl | omega
            rw [eab]
            by_cases q0 : c = 0
            · simp [q0]
            · by_cases q1 : c = 1
              · simp [q1]; try rfl
              · simp [q0, q1, show ¬ (0 ≤ c ∧ c ≤ 1) by omega]
          · refine ax_load (q := 83) rfl rfl rfl rfl rfl ?_
            refine ax_store (q := 85) (L' := [some (am_R 0), some (am_I ((p : Nat) : Int)), some (am_I c), some (am_I k), some (am_I (((ms_ T G n p k) : Nat) : Int)), some (am_I ((2 : Nat) : Int)), some (am_I (((ml_ T (ms_ T G n p k) 1 10) : Nat) : Int)), some (am_I ((2 : Nat) : Int)), some (am_I (((ml_ T (ms_ T G n p k) 2 10) : Nat) : Int))]) rfl rfl rfl rfl rfl rfl ?_
            refine ax_load (q := 87) rfl rfl rfl rfl rfl ?_
            refine ax_store (q := 89) (L' := [some (am_R 0), some (am_I ((p : Nat) : Int)), some (am_I c), some (am_I k), some (am_I (((ms_ T G n p k) : Nat) : Int)), some (am_I ((2 : Nat) : Int)), some (am_I (((ml_ T (ms_ T G n p k) 2 10) : Nat) : Int)), some (am_I ((2 : Nat) : Int)), some (am_I (((ml_ T (ms_ T G n p k) 2 10) : Nat) : Int))]) rfl rfl rfl rfl rfl rfl ?_
            refine ax_iinc (q := 92) (z' := ((3 : Nat) : Int)) (L' := [some (am_R 0), some (am_I ((p : Nat) : Int)), some (am_I c), some (am_I k), some (am_I (((ms_ T G n p k) : Nat) : Int)), some (am_I ((2 : Nat) : Int)), some (am_I (((ml_ T (ms_ T G n p k) 2 10) : Nat) : Int)), some (am_I ((3 : Nat) : Int)), some (am_I (((ml_ T (ms_ T G n p k) 2 10) : Nat) : Int))]) rfl rfl rfl rfl (am_we (by omega) (by omega) (by omega)) rfl ?_
            refine ax_goto (x := 52) rfl ?_
            refine ax_load (q := 54) rfl rfl rfl rfl rfl ?_
            refine ax_const (q := 55) (v := am_I 3) rfl rfl rfl ?_
            refine ax_icmp_ge (q := 58) (x := 95) rfl rfl (fun h55 => ?_) (fun h => absurd h (by omega))
            refine ax_load (q := 96) rfl rfl rfl rfl rfl ?_
            refine ax_load (q := 98) rfl rfl rfl rfl rfl ?_
            refine ax_load (q := 100) rfl rfl rfl rfl rfl ?_
            refine ax_calls (q := 103) rfl rfl rfl rfl rfl ?_
            refine x_chosen (by omega) ?_
            refine ax_ret (r := some (am_I (if c = 0 then ((2 : Nat) : Int) else if c = 1 then (((ml_ T (ms_ T G n p k) 2 10) : Nat) : Int) else -1))) rfl rfl ?_
            refine Eq.mp (congrArg (fun z => Q (some (am_I z)) _) ?_) hQ
            unfold F_ask
            have e0 : F_meant T G n (p : Int) k = ((ms_ T G n p k : Nat) : Int) := by unfold F_meant; rw [hb12, Int.toNat_natCast]; rfl
            rw [e0, show decide (0 < ((ms_ T G n p k : Nat) : Int)) = true from decide_eq_true (by omega), Bool.and_true, Int.toNat_natCast]
            have eab : ab_ T (ms_ T G n p k) = 2 := by rw [ab_eq]; (repeat' split) <;> first | rfl | omega
            rw [eab]
            by_cases q0 : c = 0
            · simp [q0]
            · by_cases q1 : c = 1
              · simp [q1]; try rfl
              · simp [q0, q1, show ¬ (0 ≤ c ∧ c ≤ 1) by omega]
    · refine ax_const (q := 41) (v := am_I (-1)) rfl rfl rfl ?_
      refine ax_ret (r := some (am_I (-1))) rfl rfl ?_
      refine Eq.mp (congrArg (fun z => Q (some (am_I z)) _) ?_) hQ
      unfold F_ask
      have e0 : F_meant T G n (p : Int) k = ((ms_ T G n p k : Nat) : Int) := by unfold F_meant; rw [hb12, Int.toNat_natCast]; rfl
      rw [e0, show decide (0 < ((ms_ T G n p k : Nat) : Int)) = false from decide_eq_false (by omega), Bool.and_false]
      rfl
  · have hb12 := it_0 h12
    refine ax_const (q := 16) (v := am_I (-1)) rfl rfl rfl ?_
    refine ax_ret (r := some (am_I (-1))) rfl rfl ?_
    refine Eq.mp (congrArg (fun z => Q (some (am_I z)) _) ?_) hQ
    unfold F_ask
    have e0 : F_meant T G n a k = -1 := by unfold F_meant; rw [hb12]; rfl
    rw [e0]
    simp

