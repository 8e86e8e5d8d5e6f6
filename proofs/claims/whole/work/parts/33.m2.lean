theorem vr_z1 {x : Int} : (x = 0 ∨ x = 1) ↔ (x = 0 ∨ x = 1) := Iff.rfl
/-- a stack as an array holds it: the top last -/
def vr_ (f : Nat → Int) (l : List Int) : Prop := ∀ i x, l[i]? = some x → f (l.length - 1 - i) = x
theorem vr_push {f : Nat → Int} {l : List Int} (h : vr_ f l) (x : Int) : vr_ (am_up f l.length x) (x :: l) := by
  intro i y hy
  cases i with
  | zero =>
    have e : x = y := by simpa using hy
    subst e
    show am_up f l.length x (l.length + 1 - 1 - 0) = x
    rw [show l.length + 1 - 1 - 0 = l.length by omega, am_up_same]
  | succ i =>
    have hy' : l[i]? = some y := by simpa using hy
    have hl : i < l.length := (List.getElem?_eq_some_iff.mp hy').1
    show am_up f l.length x (l.length + 1 - 1 - (i + 1)) = y
    rw [show l.length + 1 - 1 - (i + 1) = l.length - 1 - i by omega, am_up_ne (by omega)]
    exact h i y hy'
theorem vr_top {f : Nat → Int} {x : Int} {r : List Int} (h : vr_ f (x :: r)) : f r.length = x := by
  have := h 0 x rfl
  simpa using this
theorem vr_pop {f : Nat → Int} {x : Int} {r : List Int} (h : vr_ f (x :: r)) : vr_ f r := by
  intro i y hy
  have hl : i < r.length := (List.getElem?_eq_some_iff.mp hy).1
  have := h (i + 1) y (by simpa using hy)
  rw [show (x :: r).length - 1 - (i + 1) = r.length - 1 - i by simp; omega] at this
  exact this
theorem vr_set {f : Nat → Int} {x : Int} {r : List Int} (h : vr_ f (x :: r)) (y : Int) : vr_ (am_up f r.length y) (y :: r) := vr_push (vr_pop h) y
theorem vr_last {f : Nat → Int} : ∀ {l : List Int}, l ≠ [] → vr_ f l → f 0 = l.getLastD 1
  | [], h, _ => absurd rfl h
  | [x], _, h => by
    have := vr_top h
    simpa using this
  | x :: y :: r, _, h => by
    have := vr_last (l := y :: r) (by simp) (vr_pop h)
    rw [this]
    rfl
theorem ru_len {T : sp_T} (h : FV_ T) (ask : Nat → Int) : ∀ k, k ≤ nF_ T → (ru_ T ask k).length = de_ T k
  | 0, _ => rfl
  | k + 1, hk => by
    have ih := ru_len h ask k (by omega)
    have hf := h.2.2.2 k (by omega)
    show (st_ T ask k (ru_ T ask k)).length = (if T 140 k = 0 ∨ T 140 k = 1 then de_ T k + 1 else if T 140 k = 2 then de_ T k else de_ T k - 1)
    unfold st_
    rcases hf.2 with h0 | ⟨h0, -⟩ | ⟨h0, h1⟩ | ⟨h0, h1, -⟩
    · simp [h0, ih]
    · simp [h0, ih]
    · rw [← ih] at h1 ⊢
      rw [if_neg (by omega), if_neg (by omega), if_pos h0, if_neg (by omega), if_pos h0]
      cases hr : ru_ T ask k with
      | nil => rfl
      | cons x r => rfl
    · rw [← ih] at h1 ⊢
      rw [if_neg (by omega), if_neg (by omega), if_neg (by omega), if_neg (by omega), if_neg (by omega)]
      match hr : ru_ T ask k with
      | [] => rfl
      | [x] => rw [hr] at h1; simp at h1
      | x :: y :: r => simp
theorem m_truthz {d : Nat} (hd : 1 ≤ d) {σ : am_S} {z : Int} (hz : z = 0 ∨ z = 1) {Q : Option am_V → am_S → Prop} (hQ : Q (some (am_I z)) σ) : am_Ev d 171 [am_I z] σ Q := by
  rcases hz with rfl | rfl
  · exact m_truth (b := false) hd hQ
  · exact m_truth (b := true) hd hQ

theorem m_worked {d : Nat} (hd : 2 ≤ d) {σ : am_S} {s x y : Int} (hs : s = 43 ∨ s = 45 ∨ s = 42 ∨ s = 47 ∨ s = 37 ∨ s = 60 ∨ s = 62 ∨ s = 61 ∨ s = 38 ∨ s = 124) {Q : Option am_V → am_S → Prop} (hQ : Q (some (am_I (wk_ s x y))) σ) : am_Ev d 172 [am_I s, am_I x, am_I y] σ Q := by
  obtain ⟨d, rfl⟩ : ∃ e, d = e + 1 := ⟨d - 1, by omega⟩
  refine ev_in (m := 172) (c := k_X9_worked) (L := [some (am_I s), some (am_I x), some (am_I y)]) rfl rfl rfl rfl rfl rfl ?_
  refine ax_load (q := 1) rfl rfl rfl rfl rfl ?_
  rcases hs with rfl | rfl | rfl | rfl | rfl | rfl | rfl | rfl | rfl | rfl
  · refine ax_tsw (q := 120) rfl (by decide) ?_
    refine ax_load (q := 121) rfl rfl rfl rfl rfl ?_
    refine ax_load (q := 122) rfl rfl rfl rfl rfl ?_
    refine ax_iadd (q := 123) (z := am_w (x + y)) rfl rfl (rfl) ?_
    refine ax_ret (r := some (am_I (am_w (x + y)))) rfl rfl ?_
    refine Eq.mp (congrArg (fun z => Q (some (am_I z)) σ) ?_) hQ
    simp [wk_, *]
  · refine ax_tsw (q := 124) rfl (by decide) ?_
    refine ax_load (q := 125) rfl rfl rfl rfl rfl ?_
    refine ax_load (q := 126) rfl rfl rfl rfl rfl ?_
    refine ax_isub (q := 127) (z := am_w (x - y)) rfl rfl (rfl) ?_
    refine ax_ret (r := some (am_I (am_w (x - y)))) rfl rfl ?_
    refine Eq.mp (congrArg (fun z => Q (some (am_I z)) σ) ?_) hQ
    simp [wk_, *]
  · refine ax_tsw (q := 128) rfl (by decide) ?_
    refine ax_load (q := 129) rfl rfl rfl rfl rfl ?_
    refine ax_load (q := 130) rfl rfl rfl rfl rfl ?_
    refine ax_imul (q := 131) (z := am_w (x * y)) rfl rfl (rfl) ?_
    refine ax_ret (r := some (am_I (am_w (x * y)))) rfl rfl ?_
    refine Eq.mp (congrArg (fun z => Q (some (am_I z)) σ) ?_) hQ
    simp [wk_, *]
  · refine ax_tsw (q := 132) rfl (by decide) ?_
    refine ax_load (q := 133) rfl rfl rfl rfl rfl ?_
    refine ax_if_ne (q := 136) (x := 140) rfl rfl (fun h133 => ?_) (fun h133 => ?_)
    · refine ax_load (q := 141) rfl rfl rfl rfl rfl ?_
      refine ax_load (q := 142) rfl rfl rfl rfl rfl ?_
      refine ax_idiv (q := 143) (z := am_div x y) rfl rfl (h133) (rfl) ?_
      refine ax_ret (r := some (am_I (am_div x y))) rfl rfl ?_
      refine Eq.mp (congrArg (fun z => Q (some (am_I z)) σ) ?_) hQ
      simp [wk_, *]
    · refine ax_const (q := 137) (v := am_I 0) rfl rfl rfl ?_
      refine ax_goto (x := 143) rfl ?_
      refine ax_ret (r := some (am_I 0)) rfl rfl ?_
      refine Eq.mp (congrArg (fun z => Q (some (am_I z)) σ) ?_) hQ
      simp [wk_, *]
  · refine ax_tsw (q := 144) rfl (by decide) ?_
    refine ax_load (q := 145) rfl rfl rfl rfl rfl ?_
    refine ax_if_ne (q := 148) (x := 152) rfl rfl (fun h145 => ?_) (fun h145 => ?_)
    · refine ax_load (q := 153) rfl rfl rfl rfl rfl ?_
      refine ax_load (q := 154) rfl rfl rfl rfl rfl ?_
      refine ax_irem (q := 155) (z := am_rem x y) rfl rfl (h145) (rfl) ?_
      refine ax_ret (r := some (am_I (am_rem x y))) rfl rfl ?_
      refine Eq.mp (congrArg (fun z => Q (some (am_I z)) σ) ?_) hQ
      simp [wk_, *]
    · refine ax_const (q := 149) (v := am_I 0) rfl rfl rfl ?_
      refine ax_goto (x := 155) rfl ?_
      refine ax_ret (r := some (am_I 0)) rfl rfl ?_
      refine Eq.mp (congrArg (fun z => Q (some (am_I z)) σ) ?_) hQ
      simp [wk_, *]
  · refine ax_tsw (q := 156) rfl (by decide) ?_
    refine ax_load (q := 157) rfl rfl rfl rfl rfl ?_
    refine ax_load (q := 158) rfl rfl rfl rfl rfl ?_
    refine ax_icmp_ge (q := 161) (x := 165) rfl rfl (fun h158 => ?_) (fun h158 => ?_)
    · refine ax_const (q := 166) (v := am_I 0) rfl rfl rfl ?_
      refine ax_calls (q := 169) rfl rfl rfl rfl rfl ?_
      refine m_truthz (by omega) (Or.inl rfl) ?_
      refine ax_ret (r := some (am_I 0)) rfl rfl ?_
      refine Eq.mp (congrArg (fun z => Q (some (am_I z)) σ) ?_) hQ
      simp [wk_, *]
    · refine ax_const (q := 162) (v := am_I 1) rfl rfl rfl ?_
      refine ax_goto (x := 166) rfl ?_
      refine ax_calls (q := 169) rfl rfl rfl rfl rfl ?_
      refine m_truthz (by omega) (Or.inr rfl) ?_
      refine ax_ret (r := some (am_I 1)) rfl rfl ?_
      refine Eq.mp (congrArg (fun z => Q (some (am_I z)) σ) ?_) hQ
      simp [wk_, *]
  · refine ax_tsw (q := 170) rfl (by decide) ?_
    refine ax_load (q := 171) rfl rfl rfl rfl rfl ?_
    refine ax_load (q := 172) rfl rfl rfl rfl rfl ?_
    refine ax_icmp_le (q := 175) (x := 179) rfl rfl (fun h172 => ?_) (fun h172 => ?_)
    · refine ax_const (q := 180) (v := am_I 0) rfl rfl rfl ?_
      refine ax_calls (q := 183) rfl rfl rfl rfl rfl ?_
      refine m_truthz (by omega) (Or.inl rfl) ?_
      refine ax_ret (r := some (am_I 0)) rfl rfl ?_
      refine Eq.mp (congrArg (fun z => Q (some (am_I z)) σ) ?_) hQ
      simp [wk_, *]
    · refine ax_const (q := 176) (v := am_I 1) rfl rfl rfl ?_
      refine ax_goto (x := 180) rfl ?_
      refine ax_calls (q := 183) rfl rfl rfl rfl rfl ?_
      refine m_truthz (by omega) (Or.inr rfl) ?_
      refine ax_ret (r := some (am_I 1)) rfl rfl ?_
      refine Eq.mp (congrArg (fun z => Q (some (am_I z)) σ) ?_) hQ
      simp [wk_, *]
  · refine ax_tsw (q := 184) rfl (by decide) ?_
    refine ax_load (q := 185) rfl rfl rfl rfl rfl ?_
    refine ax_load (q := 186) rfl rfl rfl rfl rfl ?_
    refine ax_icmp_ne (q := 189) (x := 193) rfl rfl (fun h186 => ?_) (fun h186 => ?_)
    · refine ax_const (q := 194) (v := am_I 0) rfl rfl rfl ?_
      refine ax_calls (q := 197) rfl rfl rfl rfl rfl ?_
      refine m_truthz (by omega) (Or.inl rfl) ?_
      refine ax_ret (r := some (am_I 0)) rfl rfl ?_
      refine Eq.mp (congrArg (fun z => Q (some (am_I z)) σ) ?_) hQ
      simp [wk_, *]
    · refine ax_const (q := 190) (v := am_I 1) rfl rfl rfl ?_
      refine ax_goto (x := 194) rfl ?_
      refine ax_calls (q := 197) rfl rfl rfl rfl rfl ?_
      refine m_truthz (by omega) (Or.inr rfl) ?_
      refine ax_ret (r := some (am_I 1)) rfl rfl ?_
      refine Eq.mp (congrArg (fun z => Q (some (am_I z)) σ) ?_) hQ
      simp [wk_, *]
  · refine ax_tsw (q := 198) rfl (by decide) ?_
    refine ax_load (q := 199) rfl rfl rfl rfl rfl ?_
    refine ax_if_eq (q := 202) (x := 210) rfl rfl (fun h199 => ?_) (fun h199 => ?_)
    · refine ax_const (q := 211) (v := am_I 0) rfl rfl rfl ?_
      refine ax_calls (q := 214) rfl rfl rfl rfl rfl ?_
      refine m_truthz (by omega) (Or.inl rfl) ?_
      refine ax_ret (r := some (am_I 0)) rfl rfl ?_
      refine Eq.mp (congrArg (fun z => Q (some (am_I z)) σ) ?_) hQ
      simp [wk_, *]
    · refine ax_load (q := 203) rfl rfl rfl rfl rfl ?_
      refine ax_if_eq (q := 206) (x := 210) rfl rfl (fun h203 => ?_) (fun h203 => ?_)
      · refine ax_const (q := 211) (v := am_I 0) rfl rfl rfl ?_
        refine ax_calls (q := 214) rfl rfl rfl rfl rfl ?_
        refine m_truthz (by omega) (Or.inl rfl) ?_
        refine ax_ret (r := some (am_I 0)) rfl rfl ?_
        refine Eq.mp (congrArg (fun z => Q (some (am_I z)) σ) ?_) hQ
        simp [wk_, *]
      · refine ax_const (q := 207) (v := am_I 1) rfl rfl rfl ?_
        refine ax_goto (x := 211) rfl ?_
        refine ax_calls (q := 214) rfl rfl rfl rfl rfl ?_
        refine m_truthz (by omega) (Or.inr rfl) ?_
        refine ax_ret (r := some (am_I 1)) rfl rfl ?_
        refine Eq.mp (congrArg (fun z => Q (some (am_I z)) σ) ?_) hQ
        simp [wk_, *]
  · refine ax_tsw (q := 215) rfl (by decide) ?_
    refine ax_load (q := 216) rfl rfl rfl rfl rfl ?_
    refine ax_if_ne (q := 219) (x := 223) rfl rfl (fun h216 => ?_) (fun h216 => ?_)
    · refine ax_const (q := 224) (v := am_I 1) rfl rfl rfl ?_
      refine ax_goto (x := 228) rfl ?_
      refine ax_calls (q := 231) rfl rfl rfl rfl rfl ?_
      refine m_truthz (by omega) (Or.inr rfl) ?_
      refine ax_ret (r := some (am_I 1)) rfl rfl ?_
      refine Eq.mp (congrArg (fun z => Q (some (am_I z)) σ) ?_) hQ
      simp [wk_, *]
    · refine ax_load (q := 220) rfl rfl rfl rfl rfl ?_
      refine ax_if_eq (q := 223) (x := 227) rfl rfl (fun h220 => ?_) (fun h220 => ?_)
      · refine ax_const (q := 228) (v := am_I 0) rfl rfl rfl ?_
        refine ax_calls (q := 231) rfl rfl rfl rfl rfl ?_
        refine m_truthz (by omega) (Or.inl rfl) ?_
        refine ax_ret (r := some (am_I 0)) rfl rfl ?_
        refine Eq.mp (congrArg (fun z => Q (some (am_I z)) σ) ?_) hQ
        simp [wk_, *]
      · refine ax_const (q := 224) (v := am_I 1) rfl rfl rfl ?_
        refine ax_goto (x := 228) rfl ?_
        refine ax_calls (q := 231) rfl rfl rfl rfl rfl ?_
        refine m_truthz (by omega) (Or.inr rfl) ?_
        refine ax_ret (r := some (am_I 1)) rfl rfl ?_
        refine Eq.mp (congrArg (fun z => Q (some (am_I z)) σ) ?_) hQ
        simp [wk_, *]

