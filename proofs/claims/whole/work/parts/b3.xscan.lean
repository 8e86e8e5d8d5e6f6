theorem rl_at (P : Int → Bool) (tp : Nat → Int) (n : Nat) (hP : P (-1) = false) : ∀ m a, a + m = n → (∀ i, i < rl_ P tp n m a → P (hr_ tp n (a + i)) = true) ∧ P (hr_ tp n (a + rl_ P tp n m a)) = false
  | 0, a, h => ⟨fun i hi => absurd hi (by show ¬ i < 0; omega), by show P (hr_ tp n (a + 0)) = false; unfold hr_; rw [if_neg (by omega)]; exact hP⟩
  | m + 1, a, h => by
    by_cases q : P (hr_ tp n a) = true
    · have e : rl_ P tp n (m + 1) a = rl_ P tp n m (a + 1) + 1 := if_pos q
      have ih := rl_at P tp n hP m (a + 1) (by omega)
      rw [e]
      refine ⟨fun i hi => ?_, by rw [show a + (rl_ P tp n m (a + 1) + 1) = a + 1 + rl_ P tp n m (a + 1) by omega]; exact ih.2⟩
      cases i with
      | zero => exact q
      | succ i => rw [show a + (i + 1) = a + 1 + i by omega]; exact ih.1 i (by omega)
    · have e : rl_ P tp n (m + 1) a = 0 := if_neg q
      rw [e]
      exact ⟨fun i hi => absurd hi (by omega), by rw [Bool.not_eq_true] at q; exact q⟩
theorem hr_in {tp : Nat → Int} {n k : Nat} (h : k < n) : hr_ tp n k = tp k := if_pos h
theorem hr_out {tp : Nat → Int} {n k : Nat} (h : ¬ k < n) : hr_ tp n k = -1 := if_neg h
theorem lt_sg {f tp : Nat → Int} {n k : Nat} (h : TP_ f tp n) (hk : k < n) : lt_ (f k) = lt_ (hr_ tp n k) := by
  have := h k hk
  rw [hr_in hk, this.1]
  unfold lt_ sg8_
  split
  · rfl
  · rw [decide_eq_false (by omega), decide_eq_false (by omega)]
theorem dt_sg {f tp : Nat → Int} {n k : Nat} (h : TP_ f tp n) (hk : k < n) : dt_ (f k) = dt_ (hr_ tp n k) := by
  have := h k hk
  rw [hr_in hk, this.1]
  unfold dt_ sg8_
  split
  · rfl
  · rw [decide_eq_false (by omega), decide_eq_false (by omega)]
theorem sg_hr {f tp : Nat → Int} {n k : Nat} (h : TP_ f tp n) (hk : k < n) (hl : lt_ (hr_ tp n k) = true ∨ dt_ (hr_ tp n k) = true) : f k = hr_ tp n k := by
  have := h k hk
  rw [hr_in hk] at hl ⊢
  rw [this.1]
  unfold lt_ dt_ at hl
  unfold sg8_
  rw [decide_eq_true_eq, decide_eq_true_eq] at hl
  rw [if_pos (by omega)]
/-- what the class's reader may change: arrays A, rows of names B, its own fields K -/
def gx_ (A B K : List Nat) (σ σ' : am_S) : Prop := (∀ b, b ∉ A → b ≠ 66 → σ'.1 b = σ.1 b) ∧ (∀ k, k ∉ K → σ'.1 66 k = σ.1 66 k) ∧ (∀ b, b ∉ B → b ≠ 66 → σ'.2.1 b = σ.2.1 b) ∧ (∀ k, k ≠ 8 → σ'.2.1 66 k = σ.2.1 66 k) ∧ σ'.2.2 = σ.2.2
theorem gx_rf (A B K : List Nat) (σ : am_S) : gx_ A B K σ σ := ⟨fun _ _ _ => rfl, fun _ _ => rfl, fun _ _ _ => rfl, fun _ _ => rfl, rfl⟩
theorem gx_tr {A B K A1 B1 K1 A2 B2 K2 : List Nat} {σ σ1 σ2 : am_S} (h1 : gx_ A1 B1 K1 σ σ1) (h2 : gx_ A2 B2 K2 σ1 σ2) (a1 : ∀ x, x ∈ A1 → x ∈ A) (a2 : ∀ x, x ∈ A2 → x ∈ A) (b1 : ∀ x, x ∈ B1 → x ∈ B) (b2 : ∀ x, x ∈ B2 → x ∈ B) (k1 : ∀ x, x ∈ K1 → x ∈ K) (k2 : ∀ x, x ∈ K2 → x ∈ K) : gx_ A B K σ σ2 :=
  ⟨fun b hb h6 => by rw [h2.1 b (fun q => hb (a2 b q)) h6, h1.1 b (fun q => hb (a1 b q)) h6], fun k hk => by rw [h2.2.1 k (fun q => hk (k2 k q)), h1.2.1 k (fun q => hk (k1 k q))], fun b hb h6 => by rw [h2.2.2.1 b (fun q => hb (b2 b q)) h6, h1.2.2.1 b (fun q => hb (b1 b q)) h6], fun k hk => by rw [h2.2.2.2.1 k hk, h1.2.2.2.1 k hk], by rw [h2.2.2.2.2, h1.2.2.2.2]⟩
theorem gx_s {A B K : List Nat} {σ σ' : am_S} (h : gx_ A B K σ σ') {k : Nat} {z : Int} (hk : k ∈ K) : gx_ A B K σ (am_sI σ' 66 (am_up (σ'.1 66) k z)) :=
  ⟨fun b hb h6 => by rw [sI_ne h6]; exact h.1 b hb h6, fun j hj => by rw [sI_at, am_up_ne (show j ≠ k from fun q => hj (by rw [q]; exact hk))]; exact h.2.1 j hj, h.2.2.1, h.2.2.2.1, h.2.2.2.2⟩
theorem gx_l {A B K : List Nat} {σ σ' : am_S} (h : gx_ A B K σ σ') {z : Int} : gx_ A B K σ (am_sL σ' 66 (am_up (σ'.2.1 66) 8 z)) :=
  ⟨h.1, h.2.1, fun b hb h6 => by show am_up σ'.2.1 66 _ b = _; rw [am_up_ne h6]; exact h.2.2.1 b hb h6, fun j hj => by show am_up σ'.2.1 66 (am_up (σ'.2.1 66) 8 z) 66 j = _; rw [am_up_same, am_up_ne hj]; exact h.2.2.2.1 j hj, h.2.2.2.2⟩

theorem x_isLetter {d : Nat} (hd : 1 ≤ d) {σ : am_S} {c : Int} {Q : Option am_V → am_S → Prop} (hQ : Q (some (am_I (if lt_ c then 1 else 0))) σ) : am_Ev d 69 [am_I c] σ Q := by
  obtain ⟨d, rfl⟩ : ∃ e, d = e + 1 := ⟨d - 1, by omega⟩
  refine ev_in (m := 69) (c := k_X4_isLetter) (L := [some (am_I c)]) rfl rfl rfl rfl rfl rfl ?_
  refine ax_load (q := 1) rfl rfl rfl rfl rfl ?_
  refine ax_const (q := 3) (v := am_I 97) rfl rfl rfl ?_
  refine ax_icmp_lt (q := 6) (x := 16) rfl rfl (fun h3 => ?_) (fun h3 => ?_)
  · refine ax_const (q := 17) (v := am_I 0) rfl rfl rfl ?_
    refine ax_ret (r := some (am_I 0)) rfl ⟨rfl, Or.inl rfl⟩ ?_
    have e : lt_ c = false := decide_eq_false (by omega)
    rw [e] at hQ
    exact hQ
  · refine ax_load (q := 7) rfl rfl rfl rfl rfl ?_
    refine ax_const (q := 9) (v := am_I 122) rfl rfl rfl ?_
    refine ax_icmp_gt (q := 12) (x := 16) rfl rfl (fun h9 => ?_) (fun h9 => ?_)
    · refine ax_const (q := 17) (v := am_I 0) rfl rfl rfl ?_
      refine ax_ret (r := some (am_I 0)) rfl ⟨rfl, Or.inl rfl⟩ ?_
      have e : lt_ c = false := decide_eq_false (by omega)
      rw [e] at hQ
      exact hQ
    · refine ax_const (q := 13) (v := am_I 1) rfl rfl rfl ?_
      refine ax_goto (x := 17) rfl ?_
      refine ax_ret (r := some (am_I 1)) rfl ⟨rfl, Or.inr rfl⟩ ?_
      have e : lt_ c = true := decide_eq_true (by omega)
      rw [e] at hQ
      exact hQ

theorem x_isDigit {d : Nat} (hd : 1 ≤ d) {σ : am_S} {c : Int} {Q : Option am_V → am_S → Prop} (hQ : Q (some (am_I (if dt_ c then 1 else 0))) σ) : am_Ev d 70 [am_I c] σ Q := by
  obtain ⟨d, rfl⟩ : ∃ e, d = e + 1 := ⟨d - 1, by omega⟩
  refine ev_in (m := 70) (c := k_X4_isDigit) (L := [some (am_I c)]) rfl rfl rfl rfl rfl rfl ?_
  refine ax_load (q := 1) rfl rfl rfl rfl rfl ?_
  refine ax_const (q := 3) (v := am_I 48) rfl rfl rfl ?_
  refine ax_icmp_lt (q := 6) (x := 16) rfl rfl (fun h3 => ?_) (fun h3 => ?_)
  · refine ax_const (q := 17) (v := am_I 0) rfl rfl rfl ?_
    refine ax_ret (r := some (am_I 0)) rfl ⟨rfl, Or.inl rfl⟩ ?_
    have e : dt_ c = false := decide_eq_false (by omega)
    rw [e] at hQ
    exact hQ
  · refine ax_load (q := 7) rfl rfl rfl rfl rfl ?_
    refine ax_const (q := 9) (v := am_I 57) rfl rfl rfl ?_
    refine ax_icmp_gt (q := 12) (x := 16) rfl rfl (fun h9 => ?_) (fun h9 => ?_)
    · refine ax_const (q := 17) (v := am_I 0) rfl rfl rfl ?_
      refine ax_ret (r := some (am_I 0)) rfl ⟨rfl, Or.inl rfl⟩ ?_
      have e : dt_ c = false := decide_eq_false (by omega)
      rw [e] at hQ
      exact hQ
    · refine ax_const (q := 13) (v := am_I 1) rfl rfl rfl ?_
      refine ax_goto (x := 17) rfl ?_
      refine ax_ret (r := some (am_I 1)) rfl ⟨rfl, Or.inr rfl⟩ ?_
      have e : dt_ c = true := decide_eq_true (by omega)
      rw [e] at hQ
      exact hQ

theorem x_behind {d : Nat} (hd : 1 ≤ d) {σ : am_S} {w c : Int} {Q : Option am_V → am_S → Prop} (hQ : Q (some (am_J (am_lor (am_lshl w 5) (am_w (am_w (c - 97) + 1))))) σ) : am_Ev d 68 [am_J w, am_I c] σ Q := by
  obtain ⟨d, rfl⟩ : ∃ e, d = e + 1 := ⟨d - 1, by omega⟩
  refine ev_in (m := 68) (c := k_X4_behind) (L := [some (am_J w), none, some (am_I c)]) rfl rfl rfl rfl rfl rfl ?_
  refine ax_load (q := 1) rfl rfl rfl rfl rfl ?_
  refine ax_const (q := 2) (v := am_I 5) rfl rfl rfl ?_
  refine ax_lshl (q := 3) rfl rfl ?_
  refine ax_load (q := 4) rfl rfl rfl rfl rfl ?_
  refine ax_const (q := 6) (v := am_I 97) rfl rfl rfl ?_
  refine ax_isub (q := 7) (z := am_w (c - 97)) rfl rfl (rfl) ?_
  refine ax_const (q := 8) (v := am_I 1) rfl rfl rfl ?_
  refine ax_iadd (q := 9) (z := am_w (am_w (c - 97) + 1)) rfl rfl (rfl) ?_
  refine ax_i2l (q := 10) rfl rfl ?_
  refine ax_lor (q := 11) rfl rfl ?_
  refine ax_ret (r := some (am_J (am_lor (am_lshl w 5) (am_w (am_w (c - 97) + 1))))) rfl rfl ?_
  exact hQ

theorem sI_2 (σ : am_S) (a : Nat) (f : Nat → Int) : (am_sI σ a f).2 = σ.2 := rfl
/-- where the class's reader stands in its text -/
def RD_ (tp : Nat → Int) (n : Nat) (p : Int) (a : Nat) (σ : am_S) : Prop :=
  (TP_ (σ.1 1) tp n) ∧ (σ.1 66 4 = (n : Int)) ∧ (n ≤ 1600) ∧ (σ.1 66 5 = (a : Int)) ∧ (σ.1 66 7 = p)
theorem RD_.tx {tp : Nat → Int} {n : Nat} {p : Int} {a : Nat} {σ : am_S} (h : RD_ tp n p a σ) : TP_ (σ.1 1) tp n := h.1
theorem RD_.ln {tp : Nat → Int} {n : Nat} {p : Int} {a : Nat} {σ : am_S} (h : RD_ tp n p a σ) : σ.1 66 4 = (n : Int) := h.2.1
theorem RD_.n9 {tp : Nat → Int} {n : Nat} {p : Int} {a : Nat} {σ : am_S} (h : RD_ tp n p a σ) : n ≤ 1600 := h.2.2.1
theorem RD_.at_ {tp : Nat → Int} {n : Nat} {p : Int} {a : Nat} {σ : am_S} (h : RD_ tp n p a σ) : σ.1 66 5 = (a : Int) := h.2.2.2.1
theorem RD_.pl {tp : Nat → Int} {n : Nat} {p : Int} {a : Nat} {σ : am_S} (h : RD_ tp n p a σ) : σ.1 66 7 = p := h.2.2.2.2
theorem RD_.mv {tp : Nat → Int} {n : Nat} {p : Int} {a a' : Nat} {A B K : List Nat} {σ σ' : am_S} (h : RD_ tp n p a σ) (hf : gx_ A B K σ σ') (hA : 1 ∉ A) (h4 : 4 ∉ K) (h7 : 7 ∉ K) (ha : σ'.1 66 5 = (a' : Int)) : RD_ tp n p a' σ' := ⟨by rw [hf.1 1 hA (by decide)]; exact h.tx, by rw [hf.2.1 4 h4]; exact h.ln, h.n9, ha, by rw [hf.2.1 7 h7]; exact h.pl⟩

/-- the class's number behind l digits -/
def nd8_ (tp : Nat → Int) (n p : Nat) : Nat → Int
  | 0 => 0
  | l + 1 => am_w (am_w (am_w (nd8_ tp n p l * 10) + hr_ tp n (p + l)) - 48)
theorem nx_nv {tp : Nat → Int} {n p : Nat} : ∀ l, l ≤ 4 → (∀ i, i < l → dt_ (hr_ tp n (p + i)) = true) → nd8_ tp n p l = nv_ tp n p l ∧ 0 ≤ nv_ tp n p l ∧ nv_ tp n p l < 10 ^ l
  | 0, _, _ => ⟨rfl, Int.le_refl _, by show (0 : Int) < 10 ^ 0; decide⟩
  | l + 1, hl, h => by
    obtain ⟨e, h1, h2⟩ := nx_nv l (by omega) (fun i hi => h i (by omega))
    have hc := h l (by omega)
    unfold dt_ at hc
    rw [decide_eq_true_eq] at hc
    have hp : (10 : Int) ^ l ≤ 1000 := by
      rcases (by omega : l = 0 ∨ l = 1 ∨ l = 2 ∨ l = 3) with q | q | q | q <;> rw [q] <;> decide
    have e2 : nv_ tp n p (l + 1) = 10 * nv_ tp n p l + hr_ tp n (p + l) - 48 := if_pos (by omega)
    have e3 : (10 : Int) ^ (l + 1) = 10 ^ l * 10 := Int.pow_succ ..
    refine ⟨?_, by omega, by omega⟩
    show am_w (am_w (am_w (nd8_ tp n p l * 10) + hr_ tp n (p + l)) - 48) = _
    rw [e, e2, am_we (z := nv_ tp n p l * 10) rfl (by omega) (by omega), am_we (z := nv_ tp n p l * 10 + hr_ tp n (p + l)) rfl (by omega) (by omega)]
    exact am_we (by omega) (by omega) (by omega)

theorem xl_scanN {d : Nat} (hd : 1 ≤ d) {σ : am_S} {tp : Nat → Int} {n p Ln : Nat} (hR : RD_ tp n p p σ) (hL1 : p + Ln ≤ n) (hL2 : ∀ i, i < Ln → dt_ (hr_ tp n (p + i)) = true) (hL3 : dt_ (hr_ tp n (p + Ln)) = false) {x1 x2 : Option am_V} {Q : Option am_V → am_S → Prop} (hQ : ∀ σ', gx_ [] [] [5, 6, 9] σ σ' → σ'.1 66 5 = ((p + Ln : Nat) : Int) → σ'.1 66 6 = (if decide (4 < Ln) || lt_ (hr_ tp n (p + Ln)) then 103 else 101) → σ'.1 66 9 = nd8_ tp n p Ln → Q none σ') : ∀ (m l : Nat), l + m = Ln → ∀ σ', gx_ [] [] [5, 6, 9] σ σ' → RD_ tp n p (p + l) σ' → σ'.1 66 9 = nd8_ tp n p l → aW d 4 k_X4_scanNumber Q 5 [some (am_R 66), x1, x2] [] σ' := by
  intro m
  induction m with
  | zero =>
    intro l hl σ' hf hR' hn
    obtain hl2 : l = Ln := by omega
    subst hl2
    have n9 := hR'.n9
    refine ax_load (q := 6) rfl rfl rfl rfl rfl ?_
    refine ax_getf (q := 9) (v := am_I (((p + l) : Nat) : Int)) rfl rfl (am_fg rfl hR'.at_) ?_
    refine ax_load (q := 10) rfl rfl rfl rfl rfl ?_
    refine ax_getf (q := 13) (v := am_I ((n : Nat) : Int)) rfl rfl (am_fg rfl hR'.ln) ?_
    refine ax_icmp_ge (q := 16) (x := 68) rfl rfl (fun h13 => ?_) (fun h13 => ?_)
    · refine ax_load (q := 69) rfl rfl rfl rfl rfl ?_
      refine ax_getf (q := 72) (v := am_I (((p + l) : Nat) : Int)) rfl rfl (am_fg rfl hR'.at_) ?_
      refine ax_load (q := 73) rfl rfl rfl rfl rfl ?_
      refine ax_getf (q := 76) (v := am_I ((p : Nat) : Int)) rfl rfl (am_fg rfl hR'.pl) ?_
      refine ax_isub (q := 77) (z := ((l : Nat) : Int)) rfl rfl (am_we (by omega) (by omega) (by omega)) ?_
      refine ax_const (q := 78) (v := am_I 4) rfl rfl rfl ?_
      refine ax_icmp_le (q := 81) (x := 85) rfl rfl (fun h78 => ?_) (fun h78 => ?_)
      · refine ax_const (q := 86) (v := am_I 0) rfl rfl rfl ?_
        refine ax_store (q := 87) (L' := [some (am_R 66), some (am_I 0), x2]) rfl rfl rfl rfl rfl rfl ?_
        refine ax_load (q := 88) rfl rfl rfl rfl rfl ?_
        refine ax_getf (q := 91) (v := am_I (((p + l) : Nat) : Int)) rfl rfl (am_fg rfl hR'.at_) ?_
        refine ax_load (q := 92) rfl rfl rfl rfl rfl ?_
        refine ax_getf (q := 95) (v := am_I ((n : Nat) : Int)) rfl rfl (am_fg rfl hR'.ln) ?_
        refine ax_icmp_ge (q := 98) (x := 117) rfl rfl (fun h95 => ?_) (fun h95 => ?_)
        · refine ax_const (q := 118) (v := am_I 0) rfl rfl rfl ?_
          refine ax_store (q := 119) (L' := [some (am_R 66), some (am_I 0), some (am_I 0)]) rfl rfl rfl rfl rfl rfl ?_
          refine ax_load (q := 120) rfl rfl rfl rfl rfl ?_
          refine ax_load (q := 121) rfl rfl rfl rfl rfl ?_
          refine ax_if_ne (q := 124) (x := 128) rfl rfl (fun h => absurd h (by omega)) (fun h121 => ?_)
          refine ax_load (q := 125) rfl rfl rfl rfl rfl ?_
          refine ax_if_eq (q := 128) (x := 133) rfl rfl (fun h125 => ?_) (fun h => absurd h (by omega))
          refine ax_const (q := 135) (v := am_I 101) rfl rfl rfl ?_
          refine ax_putf (q := 138) rfl rfl rfl ?_
          refine ax_ret (r := none) rfl rfl ?_
          refine hQ _ (gx_s hf (by simp)) ?_ ?_ ?_
          · rw [sI_at, am_up_ne (by decide)]; exact hR'.at_
          · rw [sI_at, am_up_same]
            first | (rw [decide_eq_true (by omega)]; rfl) | (rw [hb, Bool.or_true]; rfl) | (rw [decide_eq_false (by omega), hb]; rfl) | (rw [decide_eq_false (by omega), hr_out (by omega)]; rfl)
          · rw [sI_at, am_up_ne (by decide)]; exact hn
        · refine ax_load (q := 99) rfl rfl rfl rfl rfl ?_
          refine ax_getf (q := 102) (v := am_R 1) rfl rfl (rfl) ?_
          refine ax_load (q := 103) rfl rfl rfl rfl rfl ?_
          refine ax_getf (q := 106) (v := am_I (((p + l) : Nat) : Int)) rfl rfl (am_fg rfl hR'.at_) ?_
          refine bx_bald (q := 107) (k := (p + l)) (z := σ'.1 1 (p + l)) rfl rfl (Or.inl rfl) (by omega) (by omega) (rfl) ?_
          refine ax_calls (q := 110) rfl rfl rfl rfl rfl ?_
          refine x_isLetter (by omega) ?_
          rw [lt_sg hR'.tx (by omega)]
          refine ax_if_eq (q := 113) (x := 117) rfl rfl (fun h110 => ?_) (fun h110 => ?_)
          · have hb := it_0 h110
            refine ax_const (q := 118) (v := am_I 0) rfl rfl rfl ?_
            refine ax_store (q := 119) (L' := [some (am_R 66), some (am_I 0), some (am_I 0)]) rfl rfl rfl rfl rfl rfl ?_
            refine ax_load (q := 120) rfl rfl rfl rfl rfl ?_
            refine ax_load (q := 121) rfl rfl rfl rfl rfl ?_
            refine ax_if_ne (q := 124) (x := 128) rfl rfl (fun h => absurd h (by omega)) (fun h121 => ?_)
            refine ax_load (q := 125) rfl rfl rfl rfl rfl ?_
            refine ax_if_eq (q := 128) (x := 133) rfl rfl (fun h125 => ?_) (fun h => absurd h (by omega))
            refine ax_const (q := 135) (v := am_I 101) rfl rfl rfl ?_
            refine ax_putf (q := 138) rfl rfl rfl ?_
            refine ax_ret (r := none) rfl rfl ?_
            refine hQ _ (gx_s hf (by simp)) ?_ ?_ ?_
            · rw [sI_at, am_up_ne (by decide)]; exact hR'.at_
            · rw [sI_at, am_up_same]
              first | (rw [decide_eq_true (by omega)]; rfl) | (rw [hb, Bool.or_true]; rfl) | (rw [decide_eq_false (by omega), hb]; rfl) | (rw [decide_eq_false (by omega), hr_out (by omega)]; rfl)
            · rw [sI_at, am_up_ne (by decide)]; exact hn
          · have hb := it_n0 h110
            refine ax_const (q := 114) (v := am_I 1) rfl rfl rfl ?_
            refine ax_goto (x := 118) rfl ?_
            refine ax_store (q := 119) (L' := [some (am_R 66), some (am_I 0), some (am_I 1)]) rfl rfl rfl rfl rfl rfl ?_
            refine ax_load (q := 120) rfl rfl rfl rfl rfl ?_
            refine ax_load (q := 121) rfl rfl rfl rfl rfl ?_
            refine ax_if_ne (q := 124) (x := 128) rfl rfl (fun h => absurd h (by omega)) (fun h121 => ?_)
            refine ax_load (q := 125) rfl rfl rfl rfl rfl ?_
            refine ax_if_eq (q := 128) (x := 133) rfl rfl (fun h => absurd h (by omega)) (fun h125 => ?_)
            refine ax_const (q := 130) (v := am_I 103) rfl rfl rfl ?_
            refine ax_goto (x := 135) rfl ?_
            refine ax_putf (q := 138) rfl rfl rfl ?_
            refine ax_ret (r := none) rfl rfl ?_
            refine hQ _ (gx_s hf (by simp)) ?_ ?_ ?_
            · rw [sI_at, am_up_ne (by decide)]; exact hR'.at_
            · rw [sI_at, am_up_same]
              first | (rw [decide_eq_true (by omega)]; rfl) | (rw [hb, Bool.or_true]; rfl) | (rw [decide_eq_false (by omega), hb]; rfl) | (rw [decide_eq_false (by omega), hr_out (by omega)]; rfl)
            · rw [sI_at, am_up_ne (by decide)]; exact hn
      · refine ax_const (q := 82) (v := am_I 1) rfl rfl rfl ?_
        refine ax_goto (x := 86) rfl ?_
        refine ax_store (q := 87) (L' := [some (am_R 66), some (am_I 1), x2]) rfl rfl rfl rfl rfl rfl ?_
        refine ax_load (q := 88) rfl rfl rfl rfl rfl ?_
        refine ax_getf (q := 91) (v := am_I (((p + l) : Nat) : Int)) rfl rfl (am_fg rfl hR'.at_) ?_
        refine ax_load (q := 92) rfl rfl rfl rfl rfl ?_
        refine ax_getf (q := 95) (v := am_I ((n : Nat) : Int)) rfl rfl (am_fg rfl hR'.ln) ?_
        refine ax_icmp_ge (q := 98) (x := 117) rfl rfl (fun h95 => ?_) (fun h95 => ?_)
        · refine ax_const (q := 118) (v := am_I 0) rfl rfl rfl ?_
          refine ax_store (q := 119) (L' := [some (am_R 66), some (am_I 1), some (am_I 0)]) rfl rfl rfl rfl rfl rfl ?_
          refine ax_load (q := 120) rfl rfl rfl rfl rfl ?_
          refine ax_load (q := 121) rfl rfl rfl rfl rfl ?_
          refine ax_if_ne (q := 124) (x := 128) rfl rfl (fun h121 => ?_) (fun h => absurd h (by omega))
          refine ax_const (q := 130) (v := am_I 103) rfl rfl rfl ?_
          refine ax_goto (x := 135) rfl ?_
          refine ax_putf (q := 138) rfl rfl rfl ?_
          refine ax_ret (r := none) rfl rfl ?_
          refine hQ _ (gx_s hf (by simp)) ?_ ?_ ?_
          · rw [sI_at, am_up_ne (by decide)]; exact hR'.at_
          · rw [sI_at, am_up_same]
            first | (rw [decide_eq_true (by omega)]; rfl) | (rw [hb, Bool.or_true]; rfl) | (rw [decide_eq_false (by omega), hb]; rfl) | (rw [decide_eq_false (by omega), hr_out (by omega)]; rfl)
          · rw [sI_at, am_up_ne (by decide)]; exact hn
        · refine ax_load (q := 99) rfl rfl rfl rfl rfl ?_
          refine ax_getf (q := 102) (v := am_R 1) rfl rfl (rfl) ?_
          refine ax_load (q := 103) rfl rfl rfl rfl rfl ?_
          refine ax_getf (q := 106) (v := am_I (((p + l) : Nat) : Int)) rfl rfl (am_fg rfl hR'.at_) ?_
          refine bx_bald (q := 107) (k := (p + l)) (z := σ'.1 1 (p + l)) rfl rfl (Or.inl rfl) (by omega) (by omega) (rfl) ?_
          refine ax_calls (q := 110) rfl rfl rfl rfl rfl ?_
          refine x_isLetter (by omega) ?_
          rw [lt_sg hR'.tx (by omega)]
          refine ax_if_eq (q := 113) (x := 117) rfl rfl (fun h110 => ?_) (fun h110 => ?_)
          · have hb := it_0 h110
            refine ax_const (q := 118) (v := am_I 0) rfl rfl rfl ?_
            refine ax_store (q := 119) (L' := [some (am_R 66), some (am_I 1), some (am_I 0)]) rfl rfl rfl rfl rfl rfl ?_
            refine ax_load (q := 120) rfl rfl rfl rfl rfl ?_
            refine ax_load (q := 121) rfl rfl rfl rfl rfl ?_
            refine ax_if_ne (q := 124) (x := 128) rfl rfl (fun h121 => ?_) (fun h => absurd h (by omega))
            refine ax_const (q := 130) (v := am_I 103) rfl rfl rfl ?_
            refine ax_goto (x := 135) rfl ?_
            refine ax_putf (q := 138) rfl rfl rfl ?_
            refine ax_ret (r := none) rfl rfl ?_
            refine hQ _ (gx_s hf (by simp)) ?_ ?_ ?_
            · rw [sI_at, am_up_ne (by decide)]; exact hR'.at_
            · rw [sI_at, am_up_same]
              first | (rw [decide_eq_true (by omega)]; rfl) | (rw [hb, Bool.or_true]; rfl) | (rw [decide_eq_false (by omega), hb]; rfl) | (rw [decide_eq_false (by omega), hr_out (by omega)]; rfl)
            · rw [sI_at, am_up_ne (by decide)]; exact hn
          · have hb := it_n0 h110
            refine ax_const (q := 114) (v := am_I 1) rfl rfl rfl ?_
            refine ax_goto (x := 118) rfl ?_
            refine ax_store (q := 119) (L' := [some (am_R 66), some (am_I 1), some (am_I 1)]) rfl rfl rfl rfl rfl rfl ?_
            refine ax_load (q := 120) rfl rfl rfl rfl rfl ?_
            refine ax_load (q := 121) rfl rfl rfl rfl rfl ?_
            refine ax_if_ne (q := 124) (x := 128) rfl rfl (fun h121 => ?_) (fun h => absurd h (by omega))
            refine ax_const (q := 130) (v := am_I 103) rfl rfl rfl ?_
            refine ax_goto (x := 135) rfl ?_
            refine ax_putf (q := 138) rfl rfl rfl ?_
            refine ax_ret (r := none) rfl rfl ?_
            refine hQ _ (gx_s hf (by simp)) ?_ ?_ ?_
            · rw [sI_at, am_up_ne (by decide)]; exact hR'.at_
            · rw [sI_at, am_up_same]
              first | (rw [decide_eq_true (by omega)]; rfl) | (rw [hb, Bool.or_true]; rfl) | (rw [decide_eq_false (by omega), hb]; rfl) | (rw [decide_eq_false (by omega), hr_out (by omega)]; rfl)
            · rw [sI_at, am_up_ne (by decide)]; exact hn
    · refine ax_load (q := 17) rfl rfl rfl rfl rfl ?_
      refine ax_getf (q := 20) (v := am_R 1) rfl rfl (rfl) ?_
      refine ax_load (q := 21) rfl rfl rfl rfl rfl ?_
      refine ax_getf (q := 24) (v := am_I (((p + l) : Nat) : Int)) rfl rfl (am_fg rfl hR'.at_) ?_
      refine bx_bald (q := 25) (k := (p + l)) (z := σ'.1 1 (p + l)) rfl rfl (Or.inl rfl) (by omega) (by omega) (rfl) ?_
      refine ax_calls (q := 28) rfl rfl rfl rfl rfl ?_
      refine x_isDigit (by omega) ?_
      rw [dt_sg hR'.tx (by omega)]
      refine ax_if_eq (q := 31) (x := 68) rfl rfl (fun h28 => ?_) (fun h => absurd (by rw [hL3]; rfl) h)
      refine ax_load (q := 69) rfl rfl rfl rfl rfl ?_
      refine ax_getf (q := 72) (v := am_I (((p + l) : Nat) : Int)) rfl rfl (am_fg rfl hR'.at_) ?_
      refine ax_load (q := 73) rfl rfl rfl rfl rfl ?_
      refine ax_getf (q := 76) (v := am_I ((p : Nat) : Int)) rfl rfl (am_fg rfl hR'.pl) ?_
      refine ax_isub (q := 77) (z := ((l : Nat) : Int)) rfl rfl (am_we (by omega) (by omega) (by omega)) ?_
      refine ax_const (q := 78) (v := am_I 4) rfl rfl rfl ?_
      refine ax_icmp_le (q := 81) (x := 85) rfl rfl (fun h78 => ?_) (fun h78 => ?_)
      · refine ax_const (q := 86) (v := am_I 0) rfl rfl rfl ?_
        refine ax_store (q := 87) (L' := [some (am_R 66), some (am_I 0), x2]) rfl rfl rfl rfl rfl rfl ?_
        refine ax_load (q := 88) rfl rfl rfl rfl rfl ?_
        refine ax_getf (q := 91) (v := am_I (((p + l) : Nat) : Int)) rfl rfl (am_fg rfl hR'.at_) ?_
        refine ax_load (q := 92) rfl rfl rfl rfl rfl ?_
        refine ax_getf (q := 95) (v := am_I ((n : Nat) : Int)) rfl rfl (am_fg rfl hR'.ln) ?_
        refine ax_icmp_ge (q := 98) (x := 117) rfl rfl (fun h95 => ?_) (fun h95 => ?_)
        · refine ax_const (q := 118) (v := am_I 0) rfl rfl rfl ?_
          refine ax_store (q := 119) (L' := [some (am_R 66), some (am_I 0), some (am_I 0)]) rfl rfl rfl rfl rfl rfl ?_
          refine ax_load (q := 120) rfl rfl rfl rfl rfl ?_
          refine ax_load (q := 121) rfl rfl rfl rfl rfl ?_
          refine ax_if_ne (q := 124) (x := 128) rfl rfl (fun h => absurd h (by omega)) (fun h121 => ?_)
          refine ax_load (q := 125) rfl rfl rfl rfl rfl ?_
          refine ax_if_eq (q := 128) (x := 133) rfl rfl (fun h125 => ?_) (fun h => absurd h (by omega))
          refine ax_const (q := 135) (v := am_I 101) rfl rfl rfl ?_
          refine ax_putf (q := 138) rfl rfl rfl ?_
          refine ax_ret (r := none) rfl rfl ?_
          refine hQ _ (gx_s hf (by simp)) ?_ ?_ ?_
          · rw [sI_at, am_up_ne (by decide)]; exact hR'.at_
          · rw [sI_at, am_up_same]
            first | (rw [decide_eq_true (by omega)]; rfl) | (rw [hb, Bool.or_true]; rfl) | (rw [decide_eq_false (by omega), hb]; rfl) | (rw [decide_eq_false (by omega), hr_out (by omega)]; rfl)
          · rw [sI_at, am_up_ne (by decide)]; exact hn
        · refine ax_load (q := 99) rfl rfl rfl rfl rfl ?_
          refine ax_getf (q := 102) (v := am_R 1) rfl rfl (rfl) ?_
          refine ax_load (q := 103) rfl rfl rfl rfl rfl ?_
          refine ax_getf (q := 106) (v := am_I (((p + l) : Nat) : Int)) rfl rfl (am_fg rfl hR'.at_) ?_
          refine bx_bald (q := 107) (k := (p + l)) (z := σ'.1 1 (p + l)) rfl rfl (Or.inl rfl) (by omega) (by omega) (rfl) ?_
          refine ax_calls (q := 110) rfl rfl rfl rfl rfl ?_
          refine x_isLetter (by omega) ?_
          rw [lt_sg hR'.tx (by omega)]
          refine ax_if_eq (q := 113) (x := 117) rfl rfl (fun h110 => ?_) (fun h110 => ?_)
          · have hb := it_0 h110
            refine ax_const (q := 118) (v := am_I 0) rfl rfl rfl ?_
            refine ax_store (q := 119) (L' := [some (am_R 66), some (am_I 0), some (am_I 0)]) rfl rfl rfl rfl rfl rfl ?_
            refine ax_load (q := 120) rfl rfl rfl rfl rfl ?_
            refine ax_load (q := 121) rfl rfl rfl rfl rfl ?_
            refine ax_if_ne (q := 124) (x := 128) rfl rfl (fun h => absurd h (by omega)) (fun h121 => ?_)
            refine ax_load (q := 125) rfl rfl rfl rfl rfl ?_
            refine ax_if_eq (q := 128) (x := 133) rfl rfl (fun h125 => ?_) (fun h => absurd h (by omega))
            refine ax_const (q := 135) (v := am_I 101) rfl rfl rfl ?_
            refine ax_putf (q := 138) rfl rfl rfl ?_
            refine ax_ret (r := none) rfl rfl ?_
            refine hQ _ (gx_s hf (by simp)) ?_ ?_ ?_
            · rw [sI_at, am_up_ne (by decide)]; exact hR'.at_
            · rw [sI_at, am_up_same]
              first | (rw [decide_eq_true (by omega)]; rfl) | (rw [hb, Bool.or_true]; rfl) | (rw [decide_eq_false (by omega), hb]; rfl) | (rw [decide_eq_false (by omega), hr_out (by omega)]; rfl)
            · rw [sI_at, am_up_ne (by decide)]; exact hn
          · have hb := it_n0 h110
            refine ax_const (q := 114) (v := am_I 1) rfl rfl rfl ?_
            refine ax_goto (x := 118) rfl ?_
            refine ax_store (q := 119) (L' := [some (am_R 66), some (am_I 0), some (am_I 1)]) rfl rfl rfl rfl rfl rfl ?_
            refine ax_load (q := 120) rfl rfl rfl rfl rfl ?_
            refine ax_load (q := 121) rfl rfl rfl rfl rfl ?_
            refine ax_if_ne (q := 124) (x := 128) rfl rfl (fun h => absurd h (by omega)) (fun h121 => ?_)
            refine ax_load (q := 125) rfl rfl rfl rfl rfl ?_
            refine ax_if_eq (q := 128) (x := 133) rfl rfl (fun h => absurd h (by omega)) (fun h125 => ?_)
            refine ax_const (q := 130) (v := am_I 103) rfl rfl rfl ?_
            refine ax_goto (x := 135) rfl ?_
            refine ax_putf (q := 138) rfl rfl rfl ?_
            refine ax_ret (r := none) rfl rfl ?_
            refine hQ _ (gx_s hf (by simp)) ?_ ?_ ?_
            · rw [sI_at, am_up_ne (by decide)]; exact hR'.at_
            · rw [sI_at, am_up_same]
              first | (rw [decide_eq_true (by omega)]; rfl) | (rw [hb, Bool.or_true]; rfl) | (rw [decide_eq_false (by omega), hb]; rfl) | (rw [decide_eq_false (by omega), hr_out (by omega)]; rfl)
            · rw [sI_at, am_up_ne (by decide)]; exact hn
      · refine ax_const (q := 82) (v := am_I 1) rfl rfl rfl ?_
        refine ax_goto (x := 86) rfl ?_
        refine ax_store (q := 87) (L' := [some (am_R 66), some (am_I 1), x2]) rfl rfl rfl rfl rfl rfl ?_
        refine ax_load (q := 88) rfl rfl rfl rfl rfl ?_
        refine ax_getf (q := 91) (v := am_I (((p + l) : Nat) : Int)) rfl rfl (am_fg rfl hR'.at_) ?_
        refine ax_load (q := 92) rfl rfl rfl rfl rfl ?_
        refine ax_getf (q := 95) (v := am_I ((n : Nat) : Int)) rfl rfl (am_fg rfl hR'.ln) ?_
        refine ax_icmp_ge (q := 98) (x := 117) rfl rfl (fun h95 => ?_) (fun h95 => ?_)
        · refine ax_const (q := 118) (v := am_I 0) rfl rfl rfl ?_
          refine ax_store (q := 119) (L' := [some (am_R 66), some (am_I 1), some (am_I 0)]) rfl rfl rfl rfl rfl rfl ?_
          refine ax_load (q := 120) rfl rfl rfl rfl rfl ?_
          refine ax_load (q := 121) rfl rfl rfl rfl rfl ?_
          refine ax_if_ne (q := 124) (x := 128) rfl rfl (fun h121 => ?_) (fun h => absurd h (by omega))
          refine ax_const (q := 130) (v := am_I 103) rfl rfl rfl ?_
          refine ax_goto (x := 135) rfl ?_
          refine ax_putf (q := 138) rfl rfl rfl ?_
          refine ax_ret (r := none) rfl rfl ?_
          refine hQ _ (gx_s hf (by simp)) ?_ ?_ ?_
          · rw [sI_at, am_up_ne (by decide)]; exact hR'.at_
          · rw [sI_at, am_up_same]
            first | (rw [decide_eq_true (by omega)]; rfl) | (rw [hb, Bool.or_true]; rfl) | (rw [decide_eq_false (by omega), hb]; rfl) | (rw [decide_eq_false (by omega), hr_out (by omega)]; rfl)
          · rw [sI_at, am_up_ne (by decide)]; exact hn
        · refine ax_load (q := 99) rfl rfl rfl rfl rfl ?_
          refine ax_getf (q := 102) (v := am_R 1) rfl rfl (rfl) ?_
          refine ax_load (q := 103) rfl rfl rfl rfl rfl ?_
          refine ax_getf (q := 106) (v := am_I (((p + l) : Nat) : Int)) rfl rfl (am_fg rfl hR'.at_) ?_
          refine bx_bald (q := 107) (k := (p + l)) (z := σ'.1 1 (p + l)) rfl rfl (Or.inl rfl) (by omega) (by omega) (rfl) ?_
          refine ax_calls (q := 110) rfl rfl rfl rfl rfl ?_
          refine x_isLetter (by omega) ?_
          rw [lt_sg hR'.tx (by omega)]
          refine ax_if_eq (q := 113) (x := 117) rfl rfl (fun h110 => ?_) (fun h110 => ?_)
          · have hb := it_0 h110
            refine ax_const (q := 118) (v := am_I 0) rfl rfl rfl ?_
            refine ax_store (q := 119) (L' := [some (am_R 66), some (am_I 1), some (am_I 0)]) rfl rfl rfl rfl rfl rfl ?_
            refine ax_load (q := 120) rfl rfl rfl rfl rfl ?_
            refine ax_load (q := 121) rfl rfl rfl rfl rfl ?_
            refine ax_if_ne (q := 124) (x := 128) rfl rfl (fun h121 => ?_) (fun h => absurd h (by omega))
            refine ax_const (q := 130) (v := am_I 103) rfl rfl rfl ?_
            refine ax_goto (x := 135) rfl ?_
            refine ax_putf (q := 138) rfl rfl rfl ?_
            refine ax_ret (r := none) rfl rfl ?_
            refine hQ _ (gx_s hf (by simp)) ?_ ?_ ?_
            · rw [sI_at, am_up_ne (by decide)]; exact hR'.at_
            · rw [sI_at, am_up_same]
              first | (rw [decide_eq_true (by omega)]; rfl) | (rw [hb, Bool.or_true]; rfl) | (rw [decide_eq_false (by omega), hb]; rfl) | (rw [decide_eq_false (by omega), hr_out (by omega)]; rfl)
            · rw [sI_at, am_up_ne (by decide)]; exact hn
          · have hb := it_n0 h110
            refine ax_const (q := 114) (v := am_I 1) rfl rfl rfl ?_
            refine ax_goto (x := 118) rfl ?_
            refine ax_store (q := 119) (L' := [some (am_R 66), some (am_I 1), some (am_I 1)]) rfl rfl rfl rfl rfl rfl ?_
            refine ax_load (q := 120) rfl rfl rfl rfl rfl ?_
            refine ax_load (q := 121) rfl rfl rfl rfl rfl ?_
            refine ax_if_ne (q := 124) (x := 128) rfl rfl (fun h121 => ?_) (fun h => absurd h (by omega))
            refine ax_const (q := 130) (v := am_I 103) rfl rfl rfl ?_
            refine ax_goto (x := 135) rfl ?_
            refine ax_putf (q := 138) rfl rfl rfl ?_
            refine ax_ret (r := none) rfl rfl ?_
            refine hQ _ (gx_s hf (by simp)) ?_ ?_ ?_
            · rw [sI_at, am_up_ne (by decide)]; exact hR'.at_
            · rw [sI_at, am_up_same]
              first | (rw [decide_eq_true (by omega)]; rfl) | (rw [hb, Bool.or_true]; rfl) | (rw [decide_eq_false (by omega), hb]; rfl) | (rw [decide_eq_false (by omega), hr_out (by omega)]; rfl)
            · rw [sI_at, am_up_ne (by decide)]; exact hn
  | succ m ih =>
    intro l hl σ' hf hR' hn
    have n9 := hR'.n9
    have hd8 := hL2 l (by omega)
    refine ax_load (q := 6) rfl rfl rfl rfl rfl ?_
    refine ax_getf (q := 9) (v := am_I (((p + l) : Nat) : Int)) rfl rfl (am_fg rfl hR'.at_) ?_
    refine ax_load (q := 10) rfl rfl rfl rfl rfl ?_
    refine ax_getf (q := 13) (v := am_I ((n : Nat) : Int)) rfl rfl (am_fg rfl hR'.ln) ?_
    refine ax_icmp_ge (q := 16) (x := 68) rfl rfl (fun h => absurd h (by omega)) (fun h13 => ?_)
    refine ax_load (q := 17) rfl rfl rfl rfl rfl ?_
    refine ax_getf (q := 20) (v := am_R 1) rfl rfl (rfl) ?_
    refine ax_load (q := 21) rfl rfl rfl rfl rfl ?_
    refine ax_getf (q := 24) (v := am_I (((p + l) : Nat) : Int)) rfl rfl (am_fg rfl hR'.at_) ?_
    refine bx_bald (q := 25) (k := (p + l)) (z := σ'.1 1 (p + l)) rfl rfl (Or.inl rfl) (by omega) (by omega) (rfl) ?_
    refine ax_calls (q := 28) rfl rfl rfl rfl rfl ?_
    refine x_isDigit (by omega) ?_
    rw [dt_sg hR'.tx (by omega)]
    refine ax_if_eq (q := 31) (x := 68) rfl rfl (fun h => absurd h (by rw [hd8]; decide)) (fun h28 => ?_)
    refine ax_load (q := 32) rfl rfl rfl rfl rfl ?_
    refine ax_load (q := 33) rfl rfl rfl rfl rfl ?_
    refine ax_getf (q := 36) (v := am_I (nd8_ tp n p l)) rfl rfl (am_fg rfl hn) ?_
    refine ax_const (q := 38) (v := am_I 10) rfl rfl rfl ?_
    refine ax_imul (q := 39) (z := am_w (nd8_ tp n p l * 10)) rfl rfl (rfl) ?_
    refine ax_load (q := 40) rfl rfl rfl rfl rfl ?_
    refine ax_getf (q := 43) (v := am_R 1) rfl rfl (rfl) ?_
    refine ax_load (q := 44) rfl rfl rfl rfl rfl ?_
    refine ax_getf (q := 47) (v := am_I (((p + l) : Nat) : Int)) rfl rfl (am_fg rfl hR'.at_) ?_
    refine bx_bald (q := 48) (k := (p + l)) (z := hr_ tp n (p + l)) rfl rfl (Or.inl rfl) (by omega) (by omega) (sg_hr hR'.tx (by omega) (Or.inr hd8)) ?_
    refine ax_iadd (q := 49) (z := am_w (am_w (nd8_ tp n p l * 10) + hr_ tp n (p + l))) rfl rfl (rfl) ?_
    refine ax_const (q := 51) (v := am_I 48) rfl rfl rfl ?_
    refine ax_isub (q := 52) (z := nd8_ tp n p (l + 1)) rfl rfl (rfl) ?_
    refine ax_putf (q := 55) rfl rfl rfl ?_
    refine ax_load (q := 56) rfl rfl rfl rfl rfl ?_
    refine ax_dup (q := 57) rfl rfl rfl ?_
    refine ax_getf (q := 60) (v := am_I (((p + l) : Nat) : Int)) rfl rfl (am_fg rfl (by rw [sI_at, am_up_ne (by decide)]; exact hR'.at_)) ?_
    refine ax_const (q := 61) (v := am_I 1) rfl rfl rfl ?_
    refine ax_iadd (q := 62) (z := (((p + (l + 1)) : Nat) : Int)) rfl rfl (am_we (by omega) (by omega) (by omega)) ?_
    refine ax_putf (q := 65) rfl rfl rfl ?_
    refine ax_goto (x := 5) rfl ?_
    have hfz := gx_s (gx_s hf (k := 9) (z := nd8_ tp n p (l + 1)) (by simp)) (k := 5) (z := ((p + (l + 1) : Nat) : Int)) (by simp)
    refine ih (l + 1) (by omega) _ hfz (hR.mv hfz (by simp) (by simp) (by simp) (by rw [sI_at, am_up_same])) ?_
    rw [sI_at, am_up_ne (by decide), sI_at, am_up_same]

theorem x_scanNumber {d : Nat} (hd : 2 ≤ d) {σ : am_S} {tp : Nat → Int} {n p Ln : Nat} (hR : RD_ tp n p p σ) (hL1 : p + Ln ≤ n) (hL2 : ∀ i, i < Ln → dt_ (hr_ tp n (p + i)) = true) (hL3 : dt_ (hr_ tp n (p + Ln)) = false) {Q : Option am_V → am_S → Prop} (hQ : ∀ σ', gx_ [] [] [5, 6, 9] σ σ' → σ'.1 66 5 = ((p + Ln : Nat) : Int) → σ'.1 66 6 = (if decide (4 < Ln) || lt_ (hr_ tp n (p + Ln)) then 103 else 101) → σ'.1 66 9 = nd8_ tp n p Ln → Q none σ') : am_Ev d 67 [am_R 66] σ Q := by
  obtain ⟨d, rfl⟩ : ∃ e, d = e + 1 := ⟨d - 1, by omega⟩
  refine ev_in (m := 67) (c := k_X4_scanNumber) (L := [some (am_R 66), none, none]) rfl rfl rfl rfl rfl rfl ?_
  refine ax_load (q := 1) rfl rfl rfl rfl rfl ?_
  refine ax_const (q := 2) (v := am_I 0) rfl rfl rfl ?_
  refine ax_putf (q := 5) rfl rfl rfl ?_
  have hfz := gx_s (gx_rf [] [] [5, 6, 9] σ) (k := 9) (z := 0) (by simp)
  exact xl_scanN (by omega) hR hL1 hL2 hL3 hQ Ln 0 (by omega) _ hfz (hR.mv hfz (by simp) (by simp) (by simp) (by rw [sI_at, am_up_ne (by decide)]; exact hR.at_)) (by rw [sI_at, am_up_same]; rfl)

