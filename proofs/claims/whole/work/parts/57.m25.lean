/-! the tokens of the reference -/
theorem m_here0 {d : Nat} (hd : 1 ≤ d) {σ : am_S} {tp : Nat → Int} (h136 : σ.1 136 = tp) {n a : Nat} (hn : σ.1 135 5 = (n : Int)) (hat : σ.1 135 4 = (a : Int)) (hn9 : n ≤ 1600) (hak : a ≤ 100000) {Q : Option am_V → am_S → Prop} (hQ : Q (some (am_I (hr_ tp n a))) σ) : am_Ev d 142 [am_R 135, am_I 0] σ Q := m_here (k := 0) hd h136 hn hat hn9 hak hQ
theorem sL_at (σ : am_S) (a : Nat) (f : Nat → Int) : (am_sL σ a f).2.1 a = f := am_up_same _ _ _
theorem sL_ne {σ : am_S} {a b : Nat} {f : Nat → Int} (h : b ≠ a) : (am_sL σ a f).2.1 b = σ.2.1 b := am_up_ne h
theorem sL_1 (σ : am_S) (a : Nat) (f : Nat → Int) : (am_sL σ a f).1 = σ.1 := rfl
theorem sL_id (σ : am_S) (a : Nat) : am_sL σ a (σ.2.1 a) = σ := by
  refine Prod.ext rfl (Prod.ext (funext fun b => ?_) rfl)
  by_cases h : b = a
  · subst h; exact sL_at _ _ _
  · exact sL_ne h
theorem sL_sL (σ : am_S) (a : Nat) (f g : Nat → Int) : am_sL (am_sL σ a f) a g = am_sL σ a g := by
  refine Prod.ext rfl (Prod.ext (funext fun b => ?_) rfl)
  by_cases h : b = a
  · subst h; rw [sL_at, sL_at]
  · rw [sL_ne h, sL_ne h, sL_ne h]
/-- frames of the parser: int rows A, fields F of 135, long rows B may change -/
def fp_ (A F B : List Nat) (σ σ' : am_S) : Prop := (∀ a, a ∉ A → a ≠ 135 → σ'.1 a = σ.1 a) ∧ (∀ k, k ∉ F → σ'.1 135 k = σ.1 135 k) ∧ (∀ a, a ∉ B → a ≠ 135 → σ'.2.1 a = σ.2.1 a) ∧ (∀ k, k ∉ F → σ'.2.1 135 k = σ.2.1 135 k) ∧ σ'.2.2 = σ.2.2
theorem fp_rf (A F B : List Nat) (σ : am_S) : fp_ A F B σ σ := ⟨fun _ _ _ => rfl, fun _ _ => rfl, fun _ _ _ => rfl, fun _ _ => rfl, rfl⟩
theorem fp_tr {A F B A' F' B' : List Nat} {σ σ1 σ2 : am_S} (h1 : fp_ A F B σ σ1) (h2 : fp_ A' F' B' σ1 σ2) (hA : ∀ a, a ∈ A' → a ∈ A) (hF : ∀ a, a ∈ F' → a ∈ F) (hB : ∀ a, a ∈ B' → a ∈ B) : fp_ A F B σ σ2 :=
  ⟨fun b hb h9 => by rw [h2.1 b (fun q => hb (hA b q)) h9, h1.1 b hb h9], fun k hk => by rw [h2.2.1 k (fun q => hk (hF k q)), h1.2.1 k hk], fun b hb h9 => by rw [h2.2.2.1 b (fun q => hb (hB b q)) h9, h1.2.2.1 b hb h9], fun k hk => by rw [h2.2.2.2.1 k (fun q => hk (hF k q)), h1.2.2.2.1 k hk], by rw [h2.2.2.2.2, h1.2.2.2.2]⟩
theorem fp_s5 {A F B : List Nat} {σ σ' : am_S} {k : Nat} {z : Int} (h : fp_ A F B σ σ') (hk : k ∈ F) : fp_ A F B σ (am_sI σ' 135 (am_up (σ'.1 135) k z)) :=
  ⟨fun b hb h9 => by rw [sI_ne h9]; exact h.1 b hb h9, fun j hj => by rw [sI_at, am_up_ne (fun q => hj (by rw [q]; exact hk))]; exact h.2.1 j hj, h.2.2.1, h.2.2.2.1, h.2.2.2.2⟩
theorem fp_l5 {A F B : List Nat} {σ σ' : am_S} {k : Nat} {z : Int} (h : fp_ A F B σ σ') (hk : k ∈ F) : fp_ A F B σ (am_sL σ' 135 (am_up (σ'.2.1 135) k z)) :=
  ⟨h.1, h.2.1, fun b hb h9 => by rw [sL_ne h9]; exact h.2.2.1 b hb h9, fun j hj => by rw [sL_at, am_up_ne (fun q => hj (by rw [q]; exact hk))]; exact h.2.2.2.1 j hj, h.2.2.2.2⟩
theorem fp_sI {A F B : List Nat} {σ σ' : am_S} {a : Nat} {f : Nat → Int} (h : fp_ A F B σ σ') (ha : a ∈ A) (h5 : 135 ≠ a) : fp_ A F B σ (am_sI σ' a f) :=
  ⟨fun b hb h9 => by rw [sI_ne (fun q => hb (by rw [q]; exact ha))]; exact h.1 b hb h9, fun k hk => by rw [sI_ne h5]; exact h.2.1 k hk, h.2.2.1, h.2.2.2.1, h.2.2.2.2⟩
theorem fp_sL {A F B : List Nat} {σ σ' : am_S} {a : Nat} {f : Nat → Int} (h : fp_ A F B σ σ') (ha : a ∈ B) (h5 : 135 ≠ a) : fp_ A F B σ (am_sL σ' a f) :=
  ⟨h.1, h.2.1, fun b hb h9 => by rw [sL_ne (fun q => hb (by rw [q]; exact ha))]; exact h.2.2.1 b hb h9, fun k hk => by rw [sL_ne h5]; exact h.2.2.2.1 k hk, h.2.2.2.2⟩
/-- behind the blanks -/
def skp_ (tp : Nat → Int) (n : Nat) : Nat → Nat → Nat
  | 0, a => a
  | m + 1, a => if hr_ tp n a = 32 ∨ hr_ tp n a = 10 then skp_ tp n m (a + 1) else a
/-- how many of a kind stand from a on -/
def rl_ (p : Int → Bool) (tp : Nat → Int) (n : Nat) : Nat → Nat → Nat
  | 0, _ => 0
  | m + 1, a => if p (hr_ tp n a) then rl_ p tp n m (a + 1) + 1 else 0
def wdv_ (tp : Nat → Int) (n a : Nat) : Nat → Int
  | 0 => 0
  | k + 1 => if k < 8 then am_lor (am_lshl (wdv_ tp n a k) 8) (hr_ tp n (a + k)) else wdv_ tp n a k
def nv_ (tp : Nat → Int) (n a : Nat) : Nat → Int
  | 0 => 0
  | k + 1 => if k < 4 then 10 * nv_ tp n a k + hr_ tp n (a + k) - 48 else nv_ tp n a k
def tkl_ (tp : Nat → Int) (n p : Nat) : Nat := if hr_ tp n p < 0 then 0 else if lt_ (hr_ tp n p) then rl_ lt_ tp n (n - p) p else if dt_ (hr_ tp n p) then rl_ dt_ tp n (n - p) p else 1
def tks_ (tp : Nat → Int) (n p : Nat) : Int := if hr_ tp n p < 0 then 0 else if lt_ (hr_ tp n p) then (if 8 < tkl_ tp n p then 3 else 1) else if dt_ (hr_ tp n p) then (if decide (4 < tkl_ tp n p) || lt_ (hr_ tp n (p + tkl_ tp n p)) then 3 else 2) else if si_ (hr_ tp n p) then hr_ tp n p else 3
def tkn_ (tp : Nat → Int) (n p : Nat) : Int := if hr_ tp n p < 0 then 0 else if lt_ (hr_ tp n p) then 0 else if dt_ (hr_ tp n p) then nv_ tp n p (tkl_ tp n p) else 0
def tkw_ (tp : Nat → Int) (n p : Nat) : Int := if hr_ tp n p < 0 then 0 else if lt_ (hr_ tp n p) then wdv_ tp n p (tkl_ tp n p) else 0
def tka_ (tp : Nat → Int) (n p : Nat) : Nat := if tks_ tp n p = 3 then p else p + tkl_ tp n p
/-- the reference stands at the token that begins at p -/
def TK_ (tp : Nat → Int) (n p : Nat) (σ : am_S) : Prop := σ.1 135 4 = (tka_ tp n p : Int) ∧ σ.1 135 6 = tks_ tp n p ∧ σ.1 135 7 = (p : Int) ∧ σ.1 135 8 = tkn_ tp n p ∧ σ.2.1 135 9 = tkw_ tp n p
theorem rl_le (p : Int → Bool) (tp : Nat → Int) (n : Nat) : ∀ m a, rl_ p tp n m a ≤ m
  | 0, _ => Nat.le_refl _
  | m + 1, a => by
    have := rl_le p tp n m (a + 1)
    unfold rl_
    split <;> omega
theorem skp_le (tp : Nat → Int) (n : Nat) : ∀ m a, a ≤ skp_ tp n m a ∧ skp_ tp n m a ≤ a + m
  | 0, _ => ⟨Nat.le_refl _, Nat.le_refl _⟩
  | m + 1, a => by
    have := skp_le tp n m (a + 1)
    unfold skp_
    split <;> omega
theorem nv_bd {tp : Nat → Int} {n a : Nat} : ∀ k, (∀ j, j < k → dt_ (hr_ tp n (a + j)) = true) → 0 ≤ nv_ tp n a k ∧ nv_ tp n a k ≤ (if k = 0 then 0 else if k = 1 then 9 else if k = 2 then 99 else if k = 3 then 999 else 9999)
  | 0, _ => ⟨Int.le_refl _, Int.le_refl _⟩
  | k + 1, h => by
    have ih := nv_bd k (fun j hj => h j (by omega))
    have h1 := of_decide_eq_true (h k (by omega))
    unfold nv_
    split
    · rcases (show k = 0 ∨ k = 1 ∨ k = 2 ∨ k = 3 by omega) with rfl | rfl | rfl | rfl <;> (try simp only [Nat.add_zero] at h1) <;> simp at ih ⊢ <;> omega
    · rw [if_neg (by omega), if_neg (by omega), if_neg (by omega), if_neg (by omega)]
      have : nv_ tp n a k ≤ 9999 := by
        refine Int.le_trans ih.2 ?_
        split
        · omega
        · split
          · omega
          · split
            · omega
            · split <;> omega
      exact ⟨ih.1, this⟩

theorem l_tok1 {d : Nat} (hd : 1 ≤ d) {σ : am_S} {tp : Nat → Int} (h136 : σ.1 136 = tp) {n : Nat} (hn : σ.1 135 5 = (n : Int)) (hn9 : n ≤ 1600) {Q : Option am_V → am_S → Prop} : ∀ (m a : Nat), a + m = n → (hQ : aW d 4 k_X9_token Q 33 [some (am_R 135), none, none] [] (am_sI σ 135 (am_up (σ.1 135) 4 ((skp_ tp n m a : Nat) : Int)))) → aW d 4 k_X9_token Q 0 [some (am_R 135), none, none] [] (am_sI σ 135 (am_up (σ.1 135) 4 ((a : Nat) : Int))) := by
  intro m
  induction m with
  | zero =>
    intro a ha hQ
    have hneg : hr_ tp n a = -1 := if_neg (by omega)
    refine ax_load (q := 1) rfl rfl rfl rfl rfl ?_
    refine ax_const (q := 2) (v := am_I 0) rfl rfl rfl ?_
    refine ax_callv (q := 5) rfl rfl rfl rfl rfl rfl ?_
    refine m_here0 (tp := tp) (n := n) (a := a) (by omega) ((sI_ne (by decide)).trans h136) (by rw [sI_at, am_up_ne (by decide)]; exact hn) (by rw [sI_at, am_up_same]) hn9 (by omega) ?_
    refine ax_const (q := 7) (v := am_I 32) rfl rfl rfl ?_
    refine ax_icmp_eq (q := 10) (x := 20) rfl rfl (fun h => absurd h (by rw [hneg]; decide)) (fun h7 => ?_)
    refine ax_load (q := 11) rfl rfl rfl rfl rfl ?_
    refine ax_const (q := 12) (v := am_I 0) rfl rfl rfl ?_
    refine ax_callv (q := 15) rfl rfl rfl rfl rfl rfl ?_
    refine m_here0 (tp := tp) (n := n) (a := a) (by omega) ((sI_ne (by decide)).trans h136) (by rw [sI_at, am_up_ne (by decide)]; exact hn) (by rw [sI_at, am_up_same]) hn9 (by omega) ?_
    refine ax_const (q := 17) (v := am_I 10) rfl rfl rfl ?_
    refine ax_icmp_ne (q := 20) (x := 33) rfl rfl (fun h17 => ?_) (fun h => absurd h (by rw [hneg]; decide))
    exact hQ
  | succ m ih =>
    intro a ha hQ
    refine ax_load (q := 1) rfl rfl rfl rfl rfl ?_
    refine ax_const (q := 2) (v := am_I 0) rfl rfl rfl ?_
    refine ax_callv (q := 5) rfl rfl rfl rfl rfl rfl ?_
    refine m_here0 (tp := tp) (n := n) (a := a) (by omega) ((sI_ne (by decide)).trans h136) (by rw [sI_at, am_up_ne (by decide)]; exact hn) (by rw [sI_at, am_up_same]) hn9 (by omega) ?_
    refine ax_const (q := 7) (v := am_I 32) rfl rfl rfl ?_
    refine ax_icmp_eq (q := 10) (x := 20) rfl rfl (fun h7 => ?_) (fun h7 => ?_)
    · refine ax_load (q := 21) rfl rfl rfl rfl rfl ?_
      refine ax_dup (q := 22) rfl rfl rfl ?_
      refine ax_getf (q := 25) (v := am_I ((a : Nat) : Int)) rfl rfl (am_fg rfl (by rw [sI_at, am_up_same])) ?_
      refine ax_const (q := 26) (v := am_I 1) rfl rfl rfl ?_
      refine ax_iadd (q := 27) (z := ((a + 1 : Nat) : Int)) rfl rfl (am_we (by omega) (by omega) (by omega)) ?_
      refine ax_putf (q := 30) rfl rfl rfl ?_
      refine ax_goto (x := 0) rfl ?_
      rw [show skp_ tp n (m + 1) a = skp_ tp n m (a + 1) from if_pos (by omega)] at hQ
      rw [sI_sI, sI_at, up_up]
      exact ih (a + 1) (by omega) hQ
    · refine ax_load (q := 11) rfl rfl rfl rfl rfl ?_
      refine ax_const (q := 12) (v := am_I 0) rfl rfl rfl ?_
      refine ax_callv (q := 15) rfl rfl rfl rfl rfl rfl ?_
      refine m_here0 (tp := tp) (n := n) (a := a) (by omega) ((sI_ne (by decide)).trans h136) (by rw [sI_at, am_up_ne (by decide)]; exact hn) (by rw [sI_at, am_up_same]) hn9 (by omega) ?_
      refine ax_const (q := 17) (v := am_I 10) rfl rfl rfl ?_
      refine ax_icmp_ne (q := 20) (x := 33) rfl rfl (fun h17 => ?_) (fun h17 => ?_)
      · rw [show skp_ tp n (m + 1) a = a from if_neg (by omega)] at hQ
        exact hQ
      · refine ax_load (q := 21) rfl rfl rfl rfl rfl ?_
        refine ax_dup (q := 22) rfl rfl rfl ?_
        refine ax_getf (q := 25) (v := am_I ((a : Nat) : Int)) rfl rfl (am_fg rfl (by rw [sI_at, am_up_same])) ?_
        refine ax_const (q := 26) (v := am_I 1) rfl rfl rfl ?_
        refine ax_iadd (q := 27) (z := ((a + 1 : Nat) : Int)) rfl rfl (am_we (by omega) (by omega) (by omega)) ?_
        refine ax_putf (q := 30) rfl rfl rfl ?_
        refine ax_goto (x := 0) rfl ?_
        rw [show skp_ tp n (m + 1) a = skp_ tp n m (a + 1) from if_pos (by omega)] at hQ
        rw [sI_sI, sI_at, up_up]
        exact ih (a + 1) (by omega) hQ

theorem l_tok2 {d : Nat} (hd : 1 ≤ d) {σ : am_S} {tp : Nat → Int} (h136 : σ.1 136 = tp) {n : Nat} (hn : σ.1 135 5 = (n : Int)) (hn9 : n ≤ 1600) {p : Nat} (hp : σ.1 135 4 = (p : Int)) (hpn : p ≤ n) {c : Int} {Q : Option am_V → am_S → Prop} : ∀ (m k : Nat), p + k + m = n → (hQ : aW d 4 k_X9_token Q 119 [some (am_R 135), some (am_I c), some (am_I ((k + rl_ lt_ tp n m (p + k) : Nat) : Int))] [] (am_sL σ 135 (am_up (σ.2.1 135) 9 (wdv_ tp n p (k + rl_ lt_ tp n m (p + k)))))) → aW d 4 k_X9_token Q 78 [some (am_R 135), some (am_I c), some (am_I ((k : Nat) : Int))] [] (am_sL σ 135 (am_up (σ.2.1 135) 9 (wdv_ tp n p k))) := by
  intro m
  induction m with
  | zero =>
    intro k hk hQ
    have hneg : lt_ (hr_ tp n (p + k)) = false := by unfold hr_; rw [if_neg (by omega)]; rfl
    refine ax_load (q := 79) rfl rfl rfl rfl rfl ?_
    refine ax_load (q := 80) rfl rfl rfl rfl rfl ?_
    refine ax_callv (q := 83) rfl rfl rfl rfl rfl rfl ?_
    refine m_here (σ := (am_sL σ 135 (am_up (σ.2.1 135) 9 (wdv_ tp n p k)))) (tp := tp) (n := n) (a := p) (k := k) (by omega) h136 hn hp hn9 (by omega) ?_
    refine ax_calls (q := 86) rfl rfl rfl rfl rfl ?_
    refine m_isLetter (by omega) ?_
    refine ax_if_eq (q := 89) (x := 119) rfl rfl (fun h86 => ?_) (fun h => absurd (by rw [hneg]; rfl) h)
    exact hQ
  | succ m ih =>
    intro k hk hQ
    refine ax_load (q := 79) rfl rfl rfl rfl rfl ?_
    refine ax_load (q := 80) rfl rfl rfl rfl rfl ?_
    refine ax_callv (q := 83) rfl rfl rfl rfl rfl rfl ?_
    refine m_here (σ := (am_sL σ 135 (am_up (σ.2.1 135) 9 (wdv_ tp n p k)))) (tp := tp) (n := n) (a := p) (k := k) (by omega) h136 hn hp hn9 (by omega) ?_
    refine ax_calls (q := 86) rfl rfl rfl rfl rfl ?_
    refine m_isLetter (by omega) ?_
    refine ax_if_eq (q := 89) (x := 119) rfl rfl (fun h86 => ?_) (fun h86 => ?_)
    · have hb86 := it_0 h86
      rw [show rl_ lt_ tp n (m + 1) (p + k) = 0 from if_neg (by rw [hb86]; decide)] at hQ
      exact hQ
    · have hb86 := it_n0 h86
      refine ax_load (q := 90) rfl rfl rfl rfl rfl ?_
      refine ax_const (q := 92) (v := am_I 8) rfl rfl rfl ?_
      refine ax_icmp_ge (q := 95) (x := 113) rfl rfl (fun h92 => ?_) (fun h92 => ?_)
      · refine ax_iinc (q := 116) (z' := ((k + 1 : Nat) : Int)) (L' := [some (am_R 135), some (am_I c), some (am_I ((k + 1 : Nat) : Int))]) rfl rfl rfl rfl (am_we (by omega) (by omega) (by omega)) rfl ?_
        refine ax_goto (x := 78) rfl ?_
        rw [show rl_ lt_ tp n (m + 1) (p + k) = rl_ lt_ tp n m (p + k + 1) + 1 from if_pos hb86] at hQ
        have e : wdv_ tp n p (k + 1) = wdv_ tp n p k := if_neg (by omega)
        have g := ih (k + 1) (by omega) (by rw [show p + (k + 1) = p + k + 1 by omega, show k + 1 + rl_ lt_ tp n m (p + k + 1) = k + (rl_ lt_ tp n m (p + k + 1) + 1) by omega]; exact hQ)
        rw [e] at g
        exact g
      · refine ax_load (q := 96) rfl rfl rfl rfl rfl ?_
        refine ax_load (q := 97) rfl rfl rfl rfl rfl ?_
        refine ax_getf (q := 100) (v := am_J (wdv_ tp n p k)) rfl rfl (am_fgJ rfl (by rw [sL_at, am_up_same])) ?_
        refine ax_const (q := 102) (v := am_I 8) rfl rfl rfl ?_
        refine ax_lshl (q := 103) rfl rfl ?_
        refine ax_load (q := 104) rfl rfl rfl rfl rfl ?_
        refine ax_load (q := 105) rfl rfl rfl rfl rfl ?_
        refine ax_callv (q := 108) rfl rfl rfl rfl rfl rfl ?_
        refine m_here (σ := (am_sL σ 135 (am_up (σ.2.1 135) 9 (wdv_ tp n p k)))) (tp := tp) (n := n) (a := p) (k := k) (by omega) h136 hn hp hn9 (by omega) ?_
        refine ax_i2l (q := 109) rfl rfl ?_
        refine ax_lor (q := 110) rfl rfl ?_
        refine ax_putf (q := 113) rfl rfl rfl ?_
        refine ax_iinc (q := 116) (z' := ((k + 1 : Nat) : Int)) (L' := [some (am_R 135), some (am_I c), some (am_I ((k + 1 : Nat) : Int))]) rfl rfl rfl rfl (am_we (by omega) (by omega) (by omega)) rfl ?_
        refine ax_goto (x := 78) rfl ?_
        rw [show rl_ lt_ tp n (m + 1) (p + k) = rl_ lt_ tp n m (p + k + 1) + 1 from if_pos hb86] at hQ
        have e : wdv_ tp n p (k + 1) = am_lor (am_lshl (wdv_ tp n p k) 8) (hr_ tp n (p + k)) := if_pos (by omega)
        have g := ih (k + 1) (by omega) (by rw [show p + (k + 1) = p + k + 1 by omega, show k + 1 + rl_ lt_ tp n m (p + k + 1) = k + (rl_ lt_ tp n m (p + k + 1) + 1) by omega]; exact hQ)
        rw [e] at g
        rw [sL_sL, sL_at, up_up]
        exact g

theorem l_tok3 {d : Nat} (hd : 1 ≤ d) {σ : am_S} {tp : Nat → Int} (h136 : σ.1 136 = tp) {n : Nat} (hn : σ.1 135 5 = (n : Int)) (hn9 : n ≤ 1600) {p : Nat} (hp : σ.1 135 4 = (p : Int)) (hpn : p ≤ n) {c : Int} {Q : Option am_V → am_S → Prop} : ∀ (m k : Nat), p + k + m = n → (∀ j, j < k → dt_ (hr_ tp n (p + j)) = true) → (hQ : aW d 4 k_X9_token Q 186 [some (am_R 135), some (am_I c), some (am_I ((k + rl_ dt_ tp n m (p + k) : Nat) : Int))] [] (am_sI σ 135 (am_up (σ.1 135) 8 (nv_ tp n p (k + rl_ dt_ tp n m (p + k)))))) → aW d 4 k_X9_token Q 144 [some (am_R 135), some (am_I c), some (am_I ((k : Nat) : Int))] [] (am_sI σ 135 (am_up (σ.1 135) 8 (nv_ tp n p k))) := by
  intro m
  induction m with
  | zero =>
    intro k hk hdt hQ
    have hneg : dt_ (hr_ tp n (p + k)) = false := by unfold hr_; rw [if_neg (by omega)]; rfl
    refine ax_load (q := 145) rfl rfl rfl rfl rfl ?_
    refine ax_load (q := 146) rfl rfl rfl rfl rfl ?_
    refine ax_callv (q := 149) rfl rfl rfl rfl rfl rfl ?_
    refine m_here (tp := tp) (n := n) (a := p) (k := k) (by omega) ((sI_ne (by decide)).trans h136) (by rw [sI_at, am_up_ne (by decide)]; exact hn) (by rw [sI_at, am_up_ne (by decide)]; exact hp) hn9 (by omega) ?_
    refine ax_calls (q := 152) rfl rfl rfl rfl rfl ?_
    refine m_isDigit (by omega) ?_
    refine ax_if_eq (q := 155) (x := 186) rfl rfl (fun h152 => ?_) (fun h => absurd (by rw [hneg]; rfl) h)
    exact hQ
  | succ m ih =>
    intro k hk hdt hQ
    have hnb := nv_bd (tp := tp) (n := n) (a := p) k hdt
    have hnb9 : nv_ tp n p k ≤ 9999 := by refine Int.le_trans hnb.2 ?_; (repeat' split) <;> omega
    refine ax_load (q := 145) rfl rfl rfl rfl rfl ?_
    refine ax_load (q := 146) rfl rfl rfl rfl rfl ?_
    refine ax_callv (q := 149) rfl rfl rfl rfl rfl rfl ?_
    refine m_here (tp := tp) (n := n) (a := p) (k := k) (by omega) ((sI_ne (by decide)).trans h136) (by rw [sI_at, am_up_ne (by decide)]; exact hn) (by rw [sI_at, am_up_ne (by decide)]; exact hp) hn9 (by omega) ?_
    refine ax_calls (q := 152) rfl rfl rfl rfl rfl ?_
    refine m_isDigit (by omega) ?_
    refine ax_if_eq (q := 155) (x := 186) rfl rfl (fun h152 => ?_) (fun h152 => ?_)
    · have hb152 := it_0 h152
      rw [show rl_ dt_ tp n (m + 1) (p + k) = 0 from if_neg (by rw [hb152]; decide)] at hQ
      exact hQ
    · have hb152 := it_n0 h152
      have hdv := of_decide_eq_true hb152
      refine ax_load (q := 156) rfl rfl rfl rfl rfl ?_
      refine ax_const (q := 157) (v := am_I 4) rfl rfl rfl ?_
      refine ax_icmp_ge (q := 160) (x := 180) rfl rfl (fun h157 => ?_) (fun h157 => ?_)
      · refine ax_iinc (q := 183) (z' := ((k + 1 : Nat) : Int)) (L' := [some (am_R 135), some (am_I c), some (am_I ((k + 1 : Nat) : Int))]) rfl rfl rfl rfl (am_we (by omega) (by omega) (by omega)) rfl ?_
        refine ax_goto (x := 144) rfl ?_
        rw [show rl_ dt_ tp n (m + 1) (p + k) = rl_ dt_ tp n m (p + k + 1) + 1 from if_pos hb152] at hQ
        have e : nv_ tp n p (k + 1) = nv_ tp n p k := if_neg (by omega)
        have g := ih (k + 1) (by omega) (fun j hj => by by_cases q : j = k; (rw [q]; exact hb152); exact hdt j (by omega)) (by rw [show p + (k + 1) = p + k + 1 by omega, show k + 1 + rl_ dt_ tp n m (p + k + 1) = k + (rl_ dt_ tp n m (p + k + 1) + 1) by omega]; exact hQ)
        rw [e] at g
        exact g
      · refine ax_load (q := 161) rfl rfl rfl rfl rfl ?_
        refine ax_const (q := 163) (v := am_I 10) rfl rfl rfl ?_
        refine ax_load (q := 164) rfl rfl rfl rfl rfl ?_
        refine ax_getf (q := 167) (v := am_I (nv_ tp n p k)) rfl rfl (am_fg rfl (by rw [sI_at, am_up_same])) ?_
        refine ax_imul (q := 168) (z := 10 * (nv_ tp n p k)) rfl rfl (am_we (by omega) (by omega) (by omega)) ?_
        refine ax_load (q := 169) rfl rfl rfl rfl rfl ?_
        refine ax_load (q := 170) rfl rfl rfl rfl rfl ?_
        refine ax_callv (q := 173) rfl rfl rfl rfl rfl rfl ?_
        refine m_here (tp := tp) (n := n) (a := p) (k := k) (by omega) ((sI_ne (by decide)).trans h136) (by rw [sI_at, am_up_ne (by decide)]; exact hn) (by rw [sI_at, am_up_ne (by decide)]; exact hp) hn9 (by omega) ?_
        refine ax_iadd (q := 174) (z := 10 * (nv_ tp n p k) + (hr_ tp n (p + k))) rfl rfl (am_we (by omega) (by omega) (by omega)) ?_
        refine ax_const (q := 176) (v := am_I 48) rfl rfl rfl ?_
        refine ax_isub (q := 177) (z := 10 * (nv_ tp n p k) + (hr_ tp n (p + k)) - 48) rfl rfl (am_we (by omega) (by omega) (by omega)) ?_
        refine ax_putf (q := 180) rfl rfl rfl ?_
        refine ax_iinc (q := 183) (z' := ((k + 1 : Nat) : Int)) (L' := [some (am_R 135), some (am_I c), some (am_I ((k + 1 : Nat) : Int))]) rfl rfl rfl rfl (am_we (by omega) (by omega) (by omega)) rfl ?_
        refine ax_goto (x := 144) rfl ?_
        rw [show rl_ dt_ tp n (m + 1) (p + k) = rl_ dt_ tp n m (p + k + 1) + 1 from if_pos hb152] at hQ
        have e : nv_ tp n p (k + 1) = 10 * nv_ tp n p k + hr_ tp n (p + k) - 48 := if_pos (by omega)
        have g := ih (k + 1) (by omega) (fun j hj => by by_cases q : j = k; (rw [q]; exact hb152); exact hdt j (by omega)) (by rw [show p + (k + 1) = p + k + 1 by omega, show k + 1 + rl_ dt_ tp n m (p + k + 1) = k + (rl_ dt_ tp n m (p + k + 1) + 1) by omega]; exact hQ)
        rw [e] at g
        rw [sI_sI, sI_at, up_up]
        exact g

