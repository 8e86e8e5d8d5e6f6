theorem m_truth {d : Nat} (hd : 1 ≤ d) {σ : am_S} {b : Bool} {Q : Option am_V → am_S → Prop} (hQ : Q (some (am_I (if b then 1 else 0))) σ) : am_Ev d 171 [am_I (if b then 1 else 0)] σ Q := by
  obtain ⟨d, rfl⟩ : ∃ e, d = e + 1 := ⟨d - 1, by omega⟩
  refine ev_in (m := 171) (c := k_X9_truth) (L := [some (am_I (if b then 1 else 0))]) rfl rfl rfl rfl rfl rfl ?_
  refine ax_load (q := 1) rfl rfl rfl rfl rfl ?_
  refine ax_if_eq (q := 4) (x := 8) rfl rfl (fun h1 => ?_) (fun h1 => ?_)
  · have hb : b = false := by cases b <;> simp_all
    subst hb
    refine ax_const (q := 9) (v := am_I 0) rfl rfl rfl ?_
    refine ax_ret (r := some (am_I 0)) rfl rfl ?_
    exact hQ
  · have hb : b = true := by cases b <;> simp_all
    subst hb
    refine ax_const (q := 5) (v := am_I 1) rfl rfl rfl ?_
    refine ax_goto (x := 9) rfl ?_
    refine ax_ret (r := some (am_I 1)) rfl rfl ?_
    exact hQ

theorem m_isIn {d : Nat} (hd : 1 ≤ d) {σ : am_S} {a b c : Int} {Q : Option am_V → am_S → Prop} (hQ : Q (some (am_I (if decide (b ≤ a ∧ a ≤ c) then 1 else 0))) σ) : am_Ev d 187 [am_I a, am_I b, am_I c] σ Q := by
  obtain ⟨d, rfl⟩ : ∃ e, d = e + 1 := ⟨d - 1, by omega⟩
  refine ev_in (m := 187) (c := k_X9_isIn) (L := [some (am_I a), some (am_I b), some (am_I c)]) rfl rfl rfl rfl rfl rfl ?_
  refine ax_load (q := 1) rfl rfl rfl rfl rfl ?_
  refine ax_load (q := 2) rfl rfl rfl rfl rfl ?_
  refine ax_icmp_lt (q := 5) (x := 14) rfl rfl (fun h2 => ?_) (fun h2 => ?_)
  · refine ax_const (q := 15) (v := am_I 0) rfl rfl rfl ?_
    refine ax_ret (r := some (am_I 0)) rfl ⟨rfl, Or.inl rfl⟩ ?_
    have e : decide (b ≤ a ∧ a ≤ c) = false := by simp; omega
    rw [e] at hQ
    exact hQ
  · refine ax_load (q := 6) rfl rfl rfl rfl rfl ?_
    refine ax_load (q := 7) rfl rfl rfl rfl rfl ?_
    refine ax_icmp_gt (q := 10) (x := 14) rfl rfl (fun h7 => ?_) (fun h7 => ?_)
    · refine ax_const (q := 15) (v := am_I 0) rfl rfl rfl ?_
      refine ax_ret (r := some (am_I 0)) rfl ⟨rfl, Or.inl rfl⟩ ?_
      have e : decide (b ≤ a ∧ a ≤ c) = false := by simp; omega
      rw [e] at hQ
      exact hQ
    · refine ax_const (q := 11) (v := am_I 1) rfl rfl rfl ?_
      refine ax_goto (x := 15) rfl ?_
      refine ax_ret (r := some (am_I 1)) rfl ⟨rfl, Or.inr rfl⟩ ?_
      have e : decide (b ≤ a ∧ a ≤ c) = true := by simp; omega
      rw [e] at hQ
      exact hQ

theorem m_isPerson {d : Nat} (hd : 2 ≤ d) {σ : am_S} {T : sp_T} (hT : TM_ T σ) (hV : TV_ T) {a : Int} {Q : Option am_V → am_S → Prop} (hQ : Q (some (am_I (if decide (0 ≤ a ∧ a < nP_ T) then 1 else 0))) σ) : am_Ev d 188 [am_R 135, am_I a] σ Q := by
  obtain ⟨d, rfl⟩ : ∃ e, d = e + 1 := ⟨d - 1, by omega⟩
  have h9 := hV.nP
  refine ev_in (m := 188) (c := k_X9_isPerson) (L := [some (am_R 135), some (am_I a)]) rfl rfl rfl rfl rfl rfl ?_
  refine ax_load (q := 1) rfl rfl rfl rfl rfl ?_
  refine ax_const (q := 2) (v := am_I 0) rfl rfl rfl ?_
  refine ax_load (q := 3) rfl rfl rfl rfl rfl ?_
  refine ax_getf (q := 6) (v := am_I ((nP_ T : Nat) : Int)) rfl rfl (am_fg rfl (hT.s53.trans hV.nP.1)) ?_
  refine ax_const (q := 7) (v := am_I 1) rfl rfl rfl ?_
  refine ax_isub (q := 8) (z := ((nP_ T : Nat) : Int) - 1) rfl rfl (am_we (by omega) (by omega) (by omega)) ?_
  refine ax_calls (q := 11) rfl rfl rfl rfl rfl ?_
  refine m_isIn (by omega) ?_
  refine ax_ret (r := some (am_I (if decide (0 ≤ a ∧ a ≤ (nP_ T : Int) - 1) then 1 else 0))) rfl ⟨rfl, by split <;> simp⟩ ?_
  have e : decide (0 ≤ a ∧ a ≤ (nP_ T : Int) - 1) = decide (0 ≤ a ∧ a < nP_ T) := by congr 1; apply propext; constructor <;> intro h <;> omega
  rw [e]
  exact hQ

theorem m_isSkill {d : Nat} (hd : 2 ≤ d) {σ : am_S} {T : sp_T} (hT : TM_ T σ) (hV : TV_ T) {a : Int} {Q : Option am_V → am_S → Prop} (hQ : Q (some (am_I (if decide (0 ≤ a ∧ a < nS_ T) then 1 else 0))) σ) : am_Ev d 189 [am_R 135, am_I a] σ Q := by
  obtain ⟨d, rfl⟩ : ∃ e, d = e + 1 := ⟨d - 1, by omega⟩
  have h9 := hV.nS
  refine ev_in (m := 189) (c := k_X9_isSkill) (L := [some (am_R 135), some (am_I a)]) rfl rfl rfl rfl rfl rfl ?_
  refine ax_load (q := 1) rfl rfl rfl rfl rfl ?_
  refine ax_const (q := 2) (v := am_I 0) rfl rfl rfl ?_
  refine ax_load (q := 3) rfl rfl rfl rfl rfl ?_
  refine ax_getf (q := 6) (v := am_I ((nS_ T : Nat) : Int)) rfl rfl (am_fg rfl (hT.s50.trans hV.nS.1)) ?_
  refine ax_const (q := 7) (v := am_I 1) rfl rfl rfl ?_
  refine ax_isub (q := 8) (z := ((nS_ T : Nat) : Int) - 1) rfl rfl (am_we (by omega) (by omega) (by omega)) ?_
  refine ax_calls (q := 11) rfl rfl rfl rfl rfl ?_
  refine m_isIn (by omega) ?_
  refine ax_ret (r := some (am_I (if decide (0 ≤ a ∧ a ≤ (nS_ T : Int) - 1) then 1 else 0))) rfl ⟨rfl, by split <;> simp⟩ ?_
  have e : decide (0 ≤ a ∧ a ≤ (nS_ T : Int) - 1) = decide (0 ≤ a ∧ a < nS_ T) := by congr 1; apply propext; constructor <;> intro h <;> omega
  rw [e]
  exact hQ

theorem m_isOrder {d : Nat} (hd : 2 ≤ d) {σ : am_S} {T : sp_T} (hT : TM_ T σ) (hV : TV_ T) {a : Int} {Q : Option am_V → am_S → Prop} (hQ : Q (some (am_I (if decide (0 ≤ a ∧ a < nO_ T) then 1 else 0))) σ) : am_Ev d 190 [am_R 135, am_I a] σ Q := by
  obtain ⟨d, rfl⟩ : ∃ e, d = e + 1 := ⟨d - 1, by omega⟩
  have h9 := hV.nO
  refine ev_in (m := 190) (c := k_X9_isOrder) (L := [some (am_R 135), some (am_I a)]) rfl rfl rfl rfl rfl rfl ?_
  refine ax_load (q := 1) rfl rfl rfl rfl rfl ?_
  refine ax_const (q := 2) (v := am_I 0) rfl rfl rfl ?_
  refine ax_load (q := 3) rfl rfl rfl rfl rfl ?_
  refine ax_getf (q := 6) (v := am_I ((nO_ T : Nat) : Int)) rfl rfl (am_fg rfl (hT.s51.trans hV.nO.1)) ?_
  refine ax_const (q := 7) (v := am_I 1) rfl rfl rfl ?_
  refine ax_isub (q := 8) (z := ((nO_ T : Nat) : Int) - 1) rfl rfl (am_we (by omega) (by omega) (by omega)) ?_
  refine ax_calls (q := 11) rfl rfl rfl rfl rfl ?_
  refine m_isIn (by omega) ?_
  refine ax_ret (r := some (am_I (if decide (0 ≤ a ∧ a ≤ (nO_ T : Int) - 1) then 1 else 0))) rfl ⟨rfl, by split <;> simp⟩ ?_
  have e : decide (0 ≤ a ∧ a ≤ (nO_ T : Int) - 1) = decide (0 ≤ a ∧ a < nO_ T) := by congr 1; apply propext; constructor <;> intro h <;> omega
  rw [e]
  exact hQ

theorem m_isShut {d : Nat} (hd : 1 ≤ d) {σ : am_S} {v : sp_V} (ha : σ.1 164 = v) {p : Nat} (hp : p < 6) {Q : Option am_V → am_S → Prop} (hQ : Q (some (am_I (if sh_ v p then 1 else 0))) σ) : am_Ev d 192 [am_R 135, am_I ((p : Nat) : Int)] σ Q := by
  obtain ⟨d, rfl⟩ : ∃ e, d = e + 1 := ⟨d - 1, by omega⟩
  refine ev_in (m := 192) (c := k_X9_isShut) (L := [some (am_R 135), some (am_I ((p : Nat) : Int))]) rfl rfl rfl rfl rfl rfl ?_
  refine ax_load (q := 1) rfl rfl rfl rfl rfl ?_
  refine ax_getf (q := 4) (v := am_R 164) rfl rfl (rfl) ?_
  refine ax_const (q := 6) (v := am_I 12) rfl rfl rfl ?_
  refine ax_load (q := 7) rfl rfl rfl rfl rfl ?_
  refine ax_iadd (q := 8) (z := ((12 + p : Nat) : Int)) rfl rfl (am_we (by omega) (by omega) (by omega)) ?_
  refine bx_iald (q := 9) (k := 12 + p) (z := v (12 + p)) rfl rfl (rfl) (by omega) (by omega) (congrFun ha _) ?_
  refine ax_const (q := 10) (v := am_I 2) rfl rfl rfl ?_
  refine ax_icmp_ge (q := 13) (x := 17) rfl rfl (fun h10 => ?_) (fun h10 => ?_)
  · refine ax_const (q := 18) (v := am_I 0) rfl rfl rfl ?_
    refine ax_ret (r := some (am_I 0)) rfl ⟨rfl, Or.inl rfl⟩ ?_
    have e : sh_ v p = false := by unfold sh_; simp; omega
    rw [e] at hQ
    exact hQ
  · refine ax_const (q := 14) (v := am_I 1) rfl rfl rfl ?_
    refine ax_goto (x := 18) rfl ?_
    refine ax_ret (r := some (am_I 1)) rfl ⟨rfl, Or.inr rfl⟩ ?_
    have e : sh_ v p = true := by unfold sh_; simp; omega
    rw [e] at hQ
    exact hQ

theorem m_levelOf {d : Nat} (hd : 1 ≤ d) {σ : am_S} {v : sp_V} (ha : σ.1 164 = v) {p s : Nat} (hp : p < 6) (hs : s < 4) {Q : Option am_V → am_S → Prop} (hQ : Q (some (am_I (v (24 + 4 * p + s)))) σ) : am_Ev d 193 [am_R 135, am_I ((p : Nat) : Int), am_I ((s : Nat) : Int)] σ Q := by
  obtain ⟨d, rfl⟩ : ∃ e, d = e + 1 := ⟨d - 1, by omega⟩
  refine ev_in (m := 193) (c := k_X9_levelOf) (L := [some (am_R 135), some (am_I ((p : Nat) : Int)), some (am_I ((s : Nat) : Int))]) rfl rfl rfl rfl rfl rfl ?_
  refine ax_load (q := 1) rfl rfl rfl rfl rfl ?_
  refine ax_getf (q := 4) (v := am_R 164) rfl rfl (rfl) ?_
  refine ax_const (q := 6) (v := am_I 24) rfl rfl rfl ?_
  refine ax_const (q := 7) (v := am_I 4) rfl rfl rfl ?_
  refine ax_load (q := 8) rfl rfl rfl rfl rfl ?_
  refine ax_imul (q := 9) (z := ((4 * p : Nat) : Int)) rfl rfl (am_we (by omega) (by omega) (by omega)) ?_
  refine ax_iadd (q := 10) (z := ((24 + (4 * p) : Nat) : Int)) rfl rfl (am_we (by omega) (by omega) (by omega)) ?_
  refine ax_load (q := 11) rfl rfl rfl rfl rfl ?_
  refine ax_iadd (q := 12) (z := (((24 + (4 * p)) + s : Nat) : Int)) rfl rfl (am_we (by omega) (by omega) (by omega)) ?_
  refine bx_iald (q := 13) (k := (24 + (4 * p)) + s) (z := v ((24 + (4 * p)) + s)) rfl rfl (rfl) (by omega) (by omega) (congrFun ha _) ?_
  refine ax_ret (r := some (am_I (v ((24 + (4 * p)) + s)))) rfl rfl ?_
  exact hQ

theorem m_can {d : Nat} (hd : 2 ≤ d) {σ : am_S} {T : sp_T} (hT : TM_ T σ) (hV : TV_ T) {v : sp_V} (ha : σ.1 164 = v) {p o : Nat} (hp : p < 6) (ho : o < nO_ T) {Q : Option am_V → am_S → Prop} (hQ : Q (some (am_I (if cn_ T v p o then 1 else 0))) σ) : am_Ev d 194 [am_R 135, am_I ((p : Nat) : Int), am_I ((o : Nat) : Int)] σ Q := by
  obtain ⟨d, rfl⟩ : ∃ e, d = e + 1 := ⟨d - 1, by omega⟩
  have h8 := hV.sk ho
  have h7 := hV.nO
  refine ev_in (m := 194) (c := k_X9_can) (L := [some (am_R 135), some (am_I ((p : Nat) : Int)), some (am_I ((o : Nat) : Int))]) rfl rfl rfl rfl rfl rfl ?_
  refine ax_load (q := 1) rfl rfl rfl rfl rfl ?_
  refine ax_load (q := 2) rfl rfl rfl rfl rfl ?_
  refine ax_load (q := 3) rfl rfl rfl rfl rfl ?_
  refine ax_getf (q := 6) (v := am_R 151) rfl rfl (rfl) ?_
  refine ax_load (q := 7) rfl rfl rfl rfl rfl ?_
  refine bx_iald (q := 8) (k := o) (z := ((sk_ T o : Nat) : Int)) rfl rfl (rfl) (by omega) (by omega) ((congrFun hT.a151 _).trans (hV.sk (by omega)).1) ?_
  refine ax_callv (q := 11) rfl rfl rfl rfl rfl rfl ?_
  refine m_levelOf (by omega) ha hp h8.2.2 ?_
  refine ax_load (q := 12) rfl rfl rfl rfl rfl ?_
  refine ax_getf (q := 15) (v := am_R 152) rfl rfl (rfl) ?_
  refine ax_load (q := 16) rfl rfl rfl rfl rfl ?_
  refine bx_iald (q := 17) (k := o) (z := T 152 o) rfl rfl (rfl) (by omega) (by omega) (congrFun hT.a152 _) ?_
  refine ax_icmp_lt (q := 20) (x := 24) rfl rfl (fun h17 => ?_) (fun h17 => ?_)
  · refine ax_const (q := 25) (v := am_I 0) rfl rfl rfl ?_
    refine ax_ret (r := some (am_I 0)) rfl ⟨rfl, Or.inl rfl⟩ ?_
    have e : cn_ T v p o = false := by unfold cn_; simp; omega
    rw [e] at hQ
    exact hQ
  · refine ax_const (q := 21) (v := am_I 1) rfl rfl rfl ?_
    refine ax_goto (x := 25) rfl ?_
    refine ax_ret (r := some (am_I 1)) rfl ⟨rfl, Or.inr rfl⟩ ?_
    have e : cn_ T v p o = true := by unfold cn_; simp; omega
    rw [e] at hQ
    exact hQ

theorem vr_z1 {x : Int} : (x = 0 ∨ x = 1) ↔ (x = 0 ∨ x = 1) := Iff.rfl
/-- a stack as an array holds it: the top last -/
def vr_ (f : Nat → Int) (l : List Int) : Prop := ∀ i x, l[i]? = some x → f (l.length - 1 - i) = x
theorem vr_push {f : Nat → Int} {l : List Int} (h : vr_ f l) (x : Int) : vr_ (am_up f l.length x) (x :: l) := by
  intro i y hy
  cases i with
  | zero =>
    have e : x = y := by simpa using hy
    subst e
    show am_up f l.length x (l.length + 1 - 1 - 0) = x
    rw [show l.length + 1 - 1 - 0 = l.length by omega, am_up_same]
  | succ i =>
    have hy' : l[i]? = some y := by simpa using hy
    have hl : i < l.length := (List.getElem?_eq_some_iff.mp hy').1
    show am_up f l.length x (l.length + 1 - 1 - (i + 1)) = y
    rw [show l.length + 1 - 1 - (i + 1) = l.length - 1 - i by omega, am_up_ne (by omega)]
    exact h i y hy'
theorem vr_top {f : Nat → Int} {x : Int} {r : List Int} (h : vr_ f (x :: r)) : f r.length = x := by
  have := h 0 x rfl
  simpa using this
theorem vr_pop {f : Nat → Int} {x : Int} {r : List Int} (h : vr_ f (x :: r)) : vr_ f r := by
  intro i y hy
  have hl : i < r.length := (List.getElem?_eq_some_iff.mp hy).1
  have := h (i + 1) y (by simpa using hy)
  rw [show (x :: r).length - 1 - (i + 1) = r.length - 1 - i by simp; omega] at this
  exact this
theorem vr_set {f : Nat → Int} {x : Int} {r : List Int} (h : vr_ f (x :: r)) (y : Int) : vr_ (am_up f r.length y) (y :: r) := vr_push (vr_pop h) y
theorem vr_last {f : Nat → Int} : ∀ {l : List Int}, l ≠ [] → vr_ f l → f 0 = l.getLastD 1
  | [], h, _ => absurd rfl h
  | [x], _, h => by
    have := vr_top h
    simpa using this
  | x :: y :: r, _, h => by
    have := vr_last (l := y :: r) (by simp) (vr_pop h)
    rw [this]
    rfl
theorem ru_len {T : sp_T} (h : FV_ T) (ask : Nat → Int) : ∀ k, k ≤ nF_ T → (ru_ T ask k).length = de_ T k
  | 0, _ => rfl
  | k + 1, hk => by
    have ih := ru_len h ask k (by omega)
    have hf := h.2.2.2 k (by omega)
    show (st_ T ask k (ru_ T ask k)).length = (if T 140 k = 0 ∨ T 140 k = 1 then de_ T k + 1 else if T 140 k = 2 then de_ T k else de_ T k - 1)
    unfold st_
    rcases hf.2 with h0 | ⟨h0, -⟩ | ⟨h0, h1⟩ | ⟨h0, h1, -⟩
    · simp [h0, ih]
    · simp [h0, ih]
    · rw [← ih] at h1 ⊢
      rw [if_neg (by omega), if_neg (by omega), if_pos h0, if_neg (by omega), if_pos h0]
      cases hr : ru_ T ask k with
      | nil => rfl
      | cons x r => rfl
    · rw [← ih] at h1 ⊢
      rw [if_neg (by omega), if_neg (by omega), if_neg (by omega), if_neg (by omega), if_neg (by omega)]
      match hr : ru_ T ask k with
      | [] => rfl
      | [x] => rw [hr] at h1; simp at h1
      | x :: y :: r => simp
theorem m_truthz {d : Nat} (hd : 1 ≤ d) {σ : am_S} {z : Int} (hz : z = 0 ∨ z = 1) {Q : Option am_V → am_S → Prop} (hQ : Q (some (am_I z)) σ) : am_Ev d 171 [am_I z] σ Q := by
  rcases hz with rfl | rfl
  · exact m_truth (b := false) hd hQ
  · exact m_truth (b := true) hd hQ

theorem m_worked {d : Nat} (hd : 2 ≤ d) {σ : am_S} {s x y : Int} (hs : s = 43 ∨ s = 45 ∨ s = 42 ∨ s = 47 ∨ s = 37 ∨ s = 60 ∨ s = 62 ∨ s = 61 ∨ s = 38 ∨ s = 124) {Q : Option am_V → am_S → Prop} (hQ : Q (some (am_I (wk_ s x y))) σ) : am_Ev d 172 [am_I s, am_I x, am_I y] σ Q := by
  obtain ⟨d, rfl⟩ : ∃ e, d = e + 1 := ⟨d - 1, by omega⟩
  refine ev_in (m := 172) (c := k_X9_worked) (L := [some (am_I s), some (am_I x), some (am_I y)]) rfl rfl rfl rfl rfl rfl ?_
  refine ax_load (q := 1) rfl rfl rfl rfl rfl ?_
  rcases hs with rfl | rfl | rfl | rfl | rfl | rfl | rfl | rfl | rfl | rfl
  · refine ax_tsw (q := 120) rfl (by decide) ?_
    refine ax_load (q := 121) rfl rfl rfl rfl rfl ?_
    refine ax_load (q := 122) rfl rfl rfl rfl rfl ?_
    refine ax_iadd (q := 123) (z := am_w (x + y)) rfl rfl (rfl) ?_
    refine ax_ret (r := some (am_I (am_w (x + y)))) rfl rfl ?_
    refine Eq.mp (congrArg (fun z => Q (some (am_I z)) σ) ?_) hQ
    simp [wk_, *]
  · refine ax_tsw (q := 124) rfl (by decide) ?_
    refine ax_load (q := 125) rfl rfl rfl rfl rfl ?_
    refine ax_load (q := 126) rfl rfl rfl rfl rfl ?_
    refine ax_isub (q := 127) (z := am_w (x - y)) rfl rfl (rfl) ?_
    refine ax_ret (r := some (am_I (am_w (x - y)))) rfl rfl ?_
    refine Eq.mp (congrArg (fun z => Q (some (am_I z)) σ) ?_) hQ
    simp [wk_, *]
  · refine ax_tsw (q := 128) rfl (by decide) ?_
    refine ax_load (q := 129) rfl rfl rfl rfl rfl ?_
    refine ax_load (q := 130) rfl rfl rfl rfl rfl ?_
    refine ax_imul (q := 131) (z := am_w (x * y)) rfl rfl (rfl) ?_
    refine ax_ret (r := some (am_I (am_w (x * y)))) rfl rfl ?_
    refine Eq.mp (congrArg (fun z => Q (some (am_I z)) σ) ?_) hQ
    simp [wk_, *]
  · refine ax_tsw (q := 132) rfl (by decide) ?_
    refine ax_load (q := 133) rfl rfl rfl rfl rfl ?_
    refine ax_if_ne (q := 136) (x := 140) rfl rfl (fun h133 => ?_) (fun h133 => ?_)
    · refine ax_load (q := 141) rfl rfl rfl rfl rfl ?_
      refine ax_load (q := 142) rfl rfl rfl rfl rfl ?_
      refine ax_idiv (q := 143) (z := am_div x y) rfl rfl (h133) (rfl) ?_
      refine ax_ret (r := some (am_I (am_div x y))) rfl rfl ?_
      refine Eq.mp (congrArg (fun z => Q (some (am_I z)) σ) ?_) hQ
      simp [wk_, *]
    · refine ax_const (q := 137) (v := am_I 0) rfl rfl rfl ?_
      refine ax_goto (x := 143) rfl ?_
      refine ax_ret (r := some (am_I 0)) rfl rfl ?_
      refine Eq.mp (congrArg (fun z => Q (some (am_I z)) σ) ?_) hQ
      simp [wk_, *]
  · refine ax_tsw (q := 144) rfl (by decide) ?_
    refine ax_load (q := 145) rfl rfl rfl rfl rfl ?_
    refine ax_if_ne (q := 148) (x := 152) rfl rfl (fun h145 => ?_) (fun h145 => ?_)
    · refine ax_load (q := 153) rfl rfl rfl rfl rfl ?_
      refine ax_load (q := 154) rfl rfl rfl rfl rfl ?_
      refine ax_irem (q := 155) (z := am_rem x y) rfl rfl (h145) (rfl) ?_
      refine ax_ret (r := some (am_I (am_rem x y))) rfl rfl ?_
      refine Eq.mp (congrArg (fun z => Q (some (am_I z)) σ) ?_) hQ
      simp [wk_, *]
    · refine ax_const (q := 149) (v := am_I 0) rfl rfl rfl ?_
      refine ax_goto (x := 155) rfl ?_
      refine ax_ret (r := some (am_I 0)) rfl rfl ?_
      refine Eq.mp (congrArg (fun z => Q (some (am_I z)) σ) ?_) hQ
      simp [wk_, *]
  · refine ax_tsw (q := 156) rfl (by decide) ?_
    refine ax_load (q := 157) rfl rfl rfl rfl rfl ?_
    refine ax_load (q := 158) rfl rfl rfl rfl rfl ?_
    refine ax_icmp_ge (q := 161) (x := 165) rfl rfl (fun h158 => ?_) (fun h158 => ?_)
    · refine ax_const (q := 166) (v := am_I 0) rfl rfl rfl ?_
      refine ax_calls (q := 169) rfl rfl rfl rfl rfl ?_
      refine m_truthz (by omega) (Or.inl rfl) ?_
      refine ax_ret (r := some (am_I 0)) rfl rfl ?_
      refine Eq.mp (congrArg (fun z => Q (some (am_I z)) σ) ?_) hQ
      simp [wk_, *]
    · refine ax_const (q := 162) (v := am_I 1) rfl rfl rfl ?_
      refine ax_goto (x := 166) rfl ?_
      refine ax_calls (q := 169) rfl rfl rfl rfl rfl ?_
      refine m_truthz (by omega) (Or.inr rfl) ?_
      refine ax_ret (r := some (am_I 1)) rfl rfl ?_
      refine Eq.mp (congrArg (fun z => Q (some (am_I z)) σ) ?_) hQ
      simp [wk_, *]
  · refine ax_tsw (q := 170) rfl (by decide) ?_
    refine ax_load (q := 171) rfl rfl rfl rfl rfl ?_
    refine ax_load (q := 172) rfl rfl rfl rfl rfl ?_
    refine ax_icmp_le (q := 175) (x := 179) rfl rfl (fun h172 => ?_) (fun h172 => ?_)
    · refine ax_const (q := 180) (v := am_I 0) rfl rfl rfl ?_
      refine ax_calls (q := 183) rfl rfl rfl rfl rfl ?_
      refine m_truthz (by omega) (Or.inl rfl) ?_
      refine ax_ret (r := some (am_I 0)) rfl rfl ?_
      refine Eq.mp (congrArg (fun z => Q (some (am_I z)) σ) ?_) hQ
      simp [wk_, *]
    · refine ax_const (q := 176) (v := am_I 1) rfl rfl rfl ?_
      refine ax_goto (x := 180) rfl ?_
      refine ax_calls (q := 183) rfl rfl rfl rfl rfl ?_
      refine m_truthz (by omega) (Or.inr rfl) ?_
      refine ax_ret (r := some (am_I 1)) rfl rfl ?_
      refine Eq.mp (congrArg (fun z => Q (some (am_I z)) σ) ?_) hQ
      simp [wk_, *]
  · refine ax_tsw (q := 184) rfl (by decide) ?_
    refine ax_load (q := 185) rfl rfl rfl rfl rfl ?_
    refine ax_load (q := 186) rfl rfl rfl rfl rfl ?_
    refine ax_icmp_ne (q := 189) (x := 193) rfl rfl (fun h186 => ?_) (fun h186 => ?_)
    · refine ax_const (q := 194) (v := am_I 0) rfl rfl rfl ?_
      refine ax_calls (q := 197) rfl rfl rfl rfl rfl ?_
      refine m_truthz (by omega) (Or.inl rfl) ?_
      refine ax_ret (r := some (am_I 0)) rfl rfl ?_
      refine Eq.mp (congrArg (fun z => Q (some (am_I z)) σ) ?_) hQ
      simp [wk_, *]
    · refine ax_const (q := 190) (v := am_I 1) rfl rfl rfl ?_
      refine ax_goto (x := 194) rfl ?_
      refine ax_calls (q := 197) rfl rfl rfl rfl rfl ?_
      refine m_truthz (by omega) (Or.inr rfl) ?_
      refine ax_ret (r := some (am_I 1)) rfl rfl ?_
      refine Eq.mp (congrArg (fun z => Q (some (am_I z)) σ) ?_) hQ
      simp [wk_, *]
  · refine ax_tsw (q := 198) rfl (by decide) ?_
    refine ax_load (q := 199) rfl rfl rfl rfl rfl ?_
    refine ax_if_eq (q := 202) (x := 210) rfl rfl (fun h199 => ?_) (fun h199 => ?_)
    · refine ax_const (q := 211) (v := am_I 0) rfl rfl rfl ?_
      refine ax_calls (q := 214) rfl rfl rfl rfl rfl ?_
      refine m_truthz (by omega) (Or.inl rfl) ?_
      refine ax_ret (r := some (am_I 0)) rfl rfl ?_
      refine Eq.mp (congrArg (fun z => Q (some (am_I z)) σ) ?_) hQ
      simp [wk_, *]
    · refine ax_load (q := 203) rfl rfl rfl rfl rfl ?_
      refine ax_if_eq (q := 206) (x := 210) rfl rfl (fun h203 => ?_) (fun h203 => ?_)
      · refine ax_const (q := 211) (v := am_I 0) rfl rfl rfl ?_
        refine ax_calls (q := 214) rfl rfl rfl rfl rfl ?_
        refine m_truthz (by omega) (Or.inl rfl) ?_
        refine ax_ret (r := some (am_I 0)) rfl rfl ?_
        refine Eq.mp (congrArg (fun z => Q (some (am_I z)) σ) ?_) hQ
        simp [wk_, *]
      · refine ax_const (q := 207) (v := am_I 1) rfl rfl rfl ?_
        refine ax_goto (x := 211) rfl ?_
        refine ax_calls (q := 214) rfl rfl rfl rfl rfl ?_
        refine m_truthz (by omega) (Or.inr rfl) ?_
        refine ax_ret (r := some (am_I 1)) rfl rfl ?_
        refine Eq.mp (congrArg (fun z => Q (some (am_I z)) σ) ?_) hQ
        simp [wk_, *]
  · refine ax_tsw (q := 215) rfl (by decide) ?_
    refine ax_load (q := 216) rfl rfl rfl rfl rfl ?_
    refine ax_if_ne (q := 219) (x := 223) rfl rfl (fun h216 => ?_) (fun h216 => ?_)
    · refine ax_const (q := 224) (v := am_I 1) rfl rfl rfl ?_
      refine ax_goto (x := 228) rfl ?_
      refine ax_calls (q := 231) rfl rfl rfl rfl rfl ?_
      refine m_truthz (by omega) (Or.inr rfl) ?_
      refine ax_ret (r := some (am_I 1)) rfl rfl ?_
      refine Eq.mp (congrArg (fun z => Q (some (am_I z)) σ) ?_) hQ
      simp [wk_, *]
    · refine ax_load (q := 220) rfl rfl rfl rfl rfl ?_
      refine ax_if_eq (q := 223) (x := 227) rfl rfl (fun h220 => ?_) (fun h220 => ?_)
      · refine ax_const (q := 228) (v := am_I 0) rfl rfl rfl ?_
        refine ax_calls (q := 231) rfl rfl rfl rfl rfl ?_
        refine m_truthz (by omega) (Or.inl rfl) ?_
        refine ax_ret (r := some (am_I 0)) rfl rfl ?_
        refine Eq.mp (congrArg (fun z => Q (some (am_I z)) σ) ?_) hQ
        simp [wk_, *]
      · refine ax_const (q := 224) (v := am_I 1) rfl rfl rfl ?_
        refine ax_goto (x := 228) rfl ?_
        refine ax_calls (q := 231) rfl rfl rfl rfl rfl ?_
        refine m_truthz (by omega) (Or.inr rfl) ?_
        refine ax_ret (r := some (am_I 1)) rfl rfl ?_
        refine Eq.mp (congrArg (fun z => Q (some (am_I z)) σ) ?_) hQ
        simp [wk_, *]

theorem l_taught {d : Nat} (hd : 3 ≤ d) {σ : am_S} {T : sp_T} (hT : TM_ T σ) (hV : TV_ T) {ask : Nat → Int} (hask : ∀ i, i < 4 → σ.1 144 i = ask i) (h60 : ¬ T 135 60 = 0) {Q : Option am_V → am_S → Prop} (hQ : ∀ σ', fr_ [143] σ σ' → Q (some (am_I (gn_ T ask))) σ') : ∀ (m k : Nat), k + m = nF_ T → ∀ σ', fr_ [143] σ σ' → vr_ (σ'.1 143) (ru_ T ask k) → aW d 0 k_X9_taught Q 13 [some (am_R 135), some (am_I (((ru_ T ask k).length : Nat) : Int)), some (am_I ((k : Nat) : Int))] [] σ' := by
  have hF := hV.fv
  have hn : T 135 18 = (nF_ T : Int) ∧ nF_ T ≤ 300 := by have := hF.1; unfold nF_; omega
  obtain ⟨hn, hn3⟩ := hn
  have h1 : 0 < nF_ T := by have := hF.2.1; have := hF.2.2.1; omega
  intro m
  induction m with
  | zero =>
    intro k hk σ' hf hv
    obtain rfl : k = nF_ T := by omega
    have hne : ru_ T ask (nF_ T) ≠ [] := by
      intro q
      have l1 := ru_len hF ask (nF_ T) (Nat.le_refl _)
      rw [q] at l1
      have l2 := de_pos hF (nF_ T - 1) (by omega)
      rw [show nF_ T - 1 + 1 = nF_ T by omega, ← l1] at l2
      exact absurd l2 (by decide)
    refine ax_load (q := 14) rfl rfl rfl rfl rfl ?_
    refine ax_load (q := 15) rfl rfl rfl rfl rfl ?_
    refine ax_getf (q := 18) (v := am_I ((nF_ T : Nat) : Int)) rfl rfl (am_fg rfl ((congrFun (hf.1 135 (by decide)) _).trans (hT.s18.trans hn))) ?_
    refine ax_icmp_ge (q := 21) (x := 161) rfl rfl (fun h18 => ?_) (fun h => absurd h (by omega))
    refine ax_load (q := 162) rfl rfl rfl rfl rfl ?_
    refine ax_getf (q := 165) (v := am_R 143) rfl rfl (rfl) ?_
    refine ax_const (q := 166) (v := am_I 0) rfl rfl rfl ?_
    refine bx_iald (q := 167) (k := 0) (z := ((ru_ T ask (nF_ T)).getLastD 1)) rfl rfl (rfl) (by omega) (by omega) (vr_last hne hv) ?_
    refine ax_if_ge (q := 170) (x := 174) rfl rfl (fun h167 => ?_) (fun h167 => ?_)
    · refine ax_load (q := 175) rfl rfl rfl rfl rfl ?_
      refine ax_getf (q := 178) (v := am_R 143) rfl rfl (rfl) ?_
      refine ax_const (q := 179) (v := am_I 0) rfl rfl rfl ?_
      refine bx_iald (q := 180) (k := 0) (z := ((ru_ T ask (nF_ T)).getLastD 1)) rfl rfl (rfl) (by omega) (by omega) (vr_last hne hv) ?_
      refine ax_const (q := 182) (v := am_I 9) rfl rfl rfl ?_
      refine ax_icmp_le (q := 185) (x := 190) rfl rfl (fun h182 => ?_) (fun h182 => ?_)
      · refine ax_load (q := 191) rfl rfl rfl rfl rfl ?_
        refine ax_getf (q := 194) (v := am_R 143) rfl rfl (rfl) ?_
        refine ax_const (q := 195) (v := am_I 0) rfl rfl rfl ?_
        refine bx_iald (q := 196) (k := 0) (z := ((ru_ T ask (nF_ T)).getLastD 1)) rfl rfl (rfl) (by omega) (by omega) (vr_last hne hv) ?_
        refine ax_ret (r := some (am_I ((ru_ T ask (nF_ T)).getLastD 1))) rfl rfl ?_
        have e : gn_ T ask = ((ru_ T ask (nF_ T)).getLastD 1) := by unfold gn_ cl_; rw [if_neg h60]; split <;> (try split) <;> omega
        rw [← e]
        exact hQ _ hf
      · refine ax_const (q := 187) (v := am_I 9) rfl rfl rfl ?_
        refine ax_goto (x := 196) rfl ?_
        refine ax_ret (r := some (am_I 9)) rfl rfl ?_
        have e : gn_ T ask = 9 := by unfold gn_ cl_; rw [if_neg h60]; split <;> (try split) <;> omega
        rw [← e]
        exact hQ _ hf
    · refine ax_const (q := 171) (v := am_I 0) rfl rfl rfl ?_
      refine ax_goto (x := 196) rfl ?_
      refine ax_ret (r := some (am_I 0)) rfl rfl ?_
      have e : gn_ T ask = 0 := by unfold gn_ cl_; rw [if_neg h60]; split <;> (try split) <;> omega
      rw [← e]
      exact hQ _ hf
  | succ m ih =>
    intro k hk σ' hf hv
    have hlen := ru_len hF ask k (by omega)
    have hk1 := hF.2.2.2 k (by omega)
    have hd1 : de_ T k ≤ 30 := by
      cases k with
      | zero => exact Nat.zero_le _
      | succ k => exact (hF.2.2.2 k (by omega)).1
    have hd2 := hk1.1
    rcases hk1.2 with h0 | ⟨h0, h2⟩ | ⟨h0, h2⟩ | ⟨h0, h3, h2⟩
    · have hd3 : de_ T (k + 1) = de_ T k + 1 := by show (if _ then _ else _) = _; rw [if_pos (Or.inl h0)]
      refine ax_load (q := 14) rfl rfl rfl rfl rfl ?_
      refine ax_load (q := 15) rfl rfl rfl rfl rfl ?_
      refine ax_getf (q := 18) (v := am_I ((nF_ T : Nat) : Int)) rfl rfl (am_fg rfl ((congrFun (hf.1 135 (by decide)) _).trans (hT.s18.trans hn))) ?_
      refine ax_icmp_ge (q := 21) (x := 161) rfl rfl (fun h => absurd h (by omega)) (fun h18 => ?_)
      refine ax_load (q := 22) rfl rfl rfl rfl rfl ?_
      refine ax_getf (q := 25) (v := am_R 140) rfl rfl (rfl) ?_
      refine ax_load (q := 26) rfl rfl rfl rfl rfl ?_
      refine bx_iald (q := 27) (k := k) (z := T 140 k) rfl rfl (rfl) (by omega) (by omega) ((congrFun (hf.1 140 (by decide)) _).trans (congrFun hT.a140 _)) ?_
      refine ax_if_eq (q := 30) (x := 40) rfl rfl (fun h27 => ?_) (fun h => absurd h (by omega))
      refine ax_load (q := 41) rfl rfl rfl rfl rfl ?_
      refine ax_getf (q := 44) (v := am_R 143) rfl rfl (rfl) ?_
      refine ax_load (q := 45) rfl rfl rfl rfl rfl ?_
      refine ax_load (q := 46) rfl rfl rfl rfl rfl ?_
      refine ax_getf (q := 49) (v := am_R 140) rfl rfl (rfl) ?_
      refine ax_load (q := 50) rfl rfl rfl rfl rfl ?_
      refine bx_iald (q := 51) (k := k) (z := T 140 k) rfl rfl (rfl) (by omega) (by omega) ((congrFun (hf.1 140 (by decide)) _).trans (congrFun hT.a140 _)) ?_
      refine ax_if_ne (q := 54) (x := 63) rfl rfl (fun h => absurd h (by omega)) (fun h51 => ?_)
      refine ax_load (q := 55) rfl rfl rfl rfl rfl ?_
      refine ax_getf (q := 58) (v := am_R 141) rfl rfl (rfl) ?_
      refine ax_load (q := 59) rfl rfl rfl rfl rfl ?_
      refine bx_iald (q := 60) (k := k) (z := T 141 k) rfl rfl (rfl) (by omega) (by omega) ((congrFun (hf.1 141 (by decide)) _).trans (congrFun hT.a141 _)) ?_
      refine ax_goto (x := 74) rfl ?_
      refine bx_iast (q := 75) (k := (ru_ T ask k).length) rfl rfl (rfl) (by omega) (by omega) ?_
      refine ax_iinc (q := 78) (z' := ((((ru_ T ask k).length) + 1 : Nat) : Int)) (L' := [some (am_R 135), some (am_I ((((ru_ T ask k).length) + 1 : Nat) : Int)), some (am_I ((k : Nat) : Int))]) rfl rfl rfl rfl (am_we (by omega) (by omega) (by omega)) rfl ?_
      refine ax_goto (x := 155) rfl ?_
      refine ax_iinc (q := 158) (z' := ((k + 1 : Nat) : Int)) (L' := [some (am_R 135), some (am_I ((((ru_ T ask k).length) + 1 : Nat) : Int)), some (am_I ((k + 1 : Nat) : Int))]) rfl rfl rfl rfl (am_we (by omega) (by omega) (by omega)) rfl ?_
      refine ax_goto (x := 13) rfl ?_
      have e : ru_ T ask (k + 1) = T 141 k :: ru_ T ask k := by show st_ T ask k _ = _; simp [st_, h0]
      have g := ih (k + 1) (by omega) (am_sI σ' 143 (am_up (σ'.1 143) ((ru_ T ask k).length) (T 141 k))) (fr_sI hf (by decide)) (by rw [sI_at, e]; exact vr_push hv _)
      rw [e] at g
      exact g
    · have hd3 : de_ T (k + 1) = de_ T k + 1 := by show (if _ then _ else _) = _; rw [if_pos (Or.inr h0)]
      refine ax_load (q := 14) rfl rfl rfl rfl rfl ?_
      refine ax_load (q := 15) rfl rfl rfl rfl rfl ?_
      refine ax_getf (q := 18) (v := am_I ((nF_ T : Nat) : Int)) rfl rfl (am_fg rfl ((congrFun (hf.1 135 (by decide)) _).trans (hT.s18.trans hn))) ?_
      refine ax_icmp_ge (q := 21) (x := 161) rfl rfl (fun h => absurd h (by omega)) (fun h18 => ?_)
      refine ax_load (q := 22) rfl rfl rfl rfl rfl ?_
      refine ax_getf (q := 25) (v := am_R 140) rfl rfl (rfl) ?_
      refine ax_load (q := 26) rfl rfl rfl rfl rfl ?_
      refine bx_iald (q := 27) (k := k) (z := T 140 k) rfl rfl (rfl) (by omega) (by omega) ((congrFun (hf.1 140 (by decide)) _).trans (congrFun hT.a140 _)) ?_
      refine ax_if_eq (q := 30) (x := 40) rfl rfl (fun h => absurd h (by omega)) (fun h27 => ?_)
      refine ax_load (q := 31) rfl rfl rfl rfl rfl ?_
      refine ax_getf (q := 34) (v := am_R 140) rfl rfl (rfl) ?_
      refine ax_load (q := 35) rfl rfl rfl rfl rfl ?_
      refine bx_iald (q := 36) (k := k) (z := T 140 k) rfl rfl (rfl) (by omega) (by omega) ((congrFun (hf.1 140 (by decide)) _).trans (congrFun hT.a140 _)) ?_
      refine ax_const (q := 37) (v := am_I 1) rfl rfl rfl ?_
      refine ax_icmp_ne (q := 40) (x := 81) rfl rfl (fun h => absurd h (by omega)) (fun h37 => ?_)
      refine ax_load (q := 41) rfl rfl rfl rfl rfl ?_
      refine ax_getf (q := 44) (v := am_R 143) rfl rfl (rfl) ?_
      refine ax_load (q := 45) rfl rfl rfl rfl rfl ?_
      refine ax_load (q := 46) rfl rfl rfl rfl rfl ?_
      refine ax_getf (q := 49) (v := am_R 140) rfl rfl (rfl) ?_
      refine ax_load (q := 50) rfl rfl rfl rfl rfl ?_
      refine bx_iald (q := 51) (k := k) (z := T 140 k) rfl rfl (rfl) (by omega) (by omega) ((congrFun (hf.1 140 (by decide)) _).trans (congrFun hT.a140 _)) ?_
      refine ax_if_ne (q := 54) (x := 63) rfl rfl (fun h51 => ?_) (fun h => absurd h (by omega))
      refine ax_load (q := 64) rfl rfl rfl rfl rfl ?_
      refine ax_getf (q := 67) (v := am_R 144) rfl rfl (rfl) ?_
      refine ax_load (q := 68) rfl rfl rfl rfl rfl ?_
      refine ax_getf (q := 71) (v := am_R 141) rfl rfl (rfl) ?_
      refine ax_load (q := 72) rfl rfl rfl rfl rfl ?_
      refine bx_iald (q := 73) (k := k) (z := T 141 k) rfl rfl (rfl) (by omega) (by omega) ((congrFun (hf.1 141 (by decide)) _).trans (congrFun hT.a141 _)) ?_
      refine bx_iald (q := 74) (k := (T 141 k).toNat) (z := ask (T 141 k).toNat) rfl rfl (rfl) (by omega) (by omega) ((congrFun (hf.1 144 (by decide)) _).trans (hask _ (by omega))) ?_
      refine bx_iast (q := 75) (k := (ru_ T ask k).length) rfl rfl (rfl) (by omega) (by omega) ?_
      refine ax_iinc (q := 78) (z' := ((((ru_ T ask k).length) + 1 : Nat) : Int)) (L' := [some (am_R 135), some (am_I ((((ru_ T ask k).length) + 1 : Nat) : Int)), some (am_I ((k : Nat) : Int))]) rfl rfl rfl rfl (am_we (by omega) (by omega) (by omega)) rfl ?_
      refine ax_goto (x := 155) rfl ?_
      refine ax_iinc (q := 158) (z' := ((k + 1 : Nat) : Int)) (L' := [some (am_R 135), some (am_I ((((ru_ T ask k).length) + 1 : Nat) : Int)), some (am_I ((k + 1 : Nat) : Int))]) rfl rfl rfl rfl (am_we (by omega) (by omega) (by omega)) rfl ?_
      refine ax_goto (x := 13) rfl ?_
      have e : ru_ T ask (k + 1) = ask (T 141 k).toNat :: ru_ T ask k := by show st_ T ask k _ = _; simp [st_, h0]
      have g := ih (k + 1) (by omega) (am_sI σ' 143 (am_up (σ'.1 143) ((ru_ T ask k).length) (ask (T 141 k).toNat))) (fr_sI hf (by decide)) (by rw [sI_at, e]; exact vr_push hv _)
      rw [e] at g
      exact g
    · rw [← hlen] at h2
      obtain ⟨x, r, hr⟩ : ∃ x r, ru_ T ask k = x :: r := by
        cases q : ru_ T ask k with
        | nil => rw [q] at h2; simp at h2
        | cons x r => exact ⟨x, r, rfl⟩
      rw [hr] at hv hlen ⊢
      rw [List.length_cons] at hlen
      show aW d 0 k_X9_taught Q 13 [some (am_R 135), some (am_I ((r.length + 1 : Nat) : Int)), some (am_I ((k : Nat) : Int))] [] σ'
      refine ax_load (q := 14) rfl rfl rfl rfl rfl ?_
      refine ax_load (q := 15) rfl rfl rfl rfl rfl ?_
      refine ax_getf (q := 18) (v := am_I ((nF_ T : Nat) : Int)) rfl rfl (am_fg rfl ((congrFun (hf.1 135 (by decide)) _).trans (hT.s18.trans hn))) ?_
      refine ax_icmp_ge (q := 21) (x := 161) rfl rfl (fun h => absurd h (by omega)) (fun h18 => ?_)
      refine ax_load (q := 22) rfl rfl rfl rfl rfl ?_
      refine ax_getf (q := 25) (v := am_R 140) rfl rfl (rfl) ?_
      refine ax_load (q := 26) rfl rfl rfl rfl rfl ?_
      refine bx_iald (q := 27) (k := k) (z := T 140 k) rfl rfl (rfl) (by omega) (by omega) ((congrFun (hf.1 140 (by decide)) _).trans (congrFun hT.a140 _)) ?_
      refine ax_if_eq (q := 30) (x := 40) rfl rfl (fun h => absurd h (by omega)) (fun h27 => ?_)
      refine ax_load (q := 31) rfl rfl rfl rfl rfl ?_
      refine ax_getf (q := 34) (v := am_R 140) rfl rfl (rfl) ?_
      refine ax_load (q := 35) rfl rfl rfl rfl rfl ?_
      refine bx_iald (q := 36) (k := k) (z := T 140 k) rfl rfl (rfl) (by omega) (by omega) ((congrFun (hf.1 140 (by decide)) _).trans (congrFun hT.a140 _)) ?_
      refine ax_const (q := 37) (v := am_I 1) rfl rfl rfl ?_
      refine ax_icmp_ne (q := 40) (x := 81) rfl rfl (fun h37 => ?_) (fun h => absurd h (by omega))
      refine ax_load (q := 82) rfl rfl rfl rfl rfl ?_
      refine ax_getf (q := 85) (v := am_R 140) rfl rfl (rfl) ?_
      refine ax_load (q := 86) rfl rfl rfl rfl rfl ?_
      refine bx_iald (q := 87) (k := k) (z := T 140 k) rfl rfl (rfl) (by omega) (by omega) ((congrFun (hf.1 140 (by decide)) _).trans (congrFun hT.a140 _)) ?_
      refine ax_const (q := 88) (v := am_I 2) rfl rfl rfl ?_
      refine ax_icmp_ne (q := 91) (x := 121) rfl rfl (fun h => absurd h (by omega)) (fun h88 => ?_)
      refine ax_load (q := 92) rfl rfl rfl rfl rfl ?_
      refine ax_getf (q := 95) (v := am_R 143) rfl rfl (rfl) ?_
      refine ax_load (q := 96) rfl rfl rfl rfl rfl ?_
      refine ax_const (q := 97) (v := am_I 1) rfl rfl rfl ?_
      refine ax_isub (q := 98) (z := ((r.length : Nat) : Int)) rfl rfl (am_we (by omega) (by omega) (by omega)) ?_
      refine ax_load (q := 99) rfl rfl rfl rfl rfl ?_
      refine ax_getf (q := 102) (v := am_R 143) rfl rfl (rfl) ?_
      refine ax_load (q := 103) rfl rfl rfl rfl rfl ?_
      refine ax_const (q := 104) (v := am_I 1) rfl rfl rfl ?_
      refine ax_isub (q := 105) (z := ((r.length : Nat) : Int)) rfl rfl (am_we (by omega) (by omega) (by omega)) ?_
      refine bx_iald (q := 106) (k := r.length) (z := x) rfl rfl (rfl) (by omega) (by omega) (vr_top hv) ?_
      refine ax_if_ne (q := 109) (x := 113) rfl rfl (fun h106 => ?_) (fun h106 => ?_)
      · refine ax_const (q := 114) (v := am_I 0) rfl rfl rfl ?_
        refine ax_calls (q := 117) rfl rfl rfl rfl rfl ?_
        refine m_truthz (by omega) (Or.inl rfl) ?_
        refine bx_iast (q := 118) (k := r.length) rfl rfl (rfl) (by omega) (by omega) ?_
        refine ax_goto (x := 155) rfl ?_
        refine ax_iinc (q := 158) (z' := ((k + 1 : Nat) : Int)) (L' := [some (am_R 135), some (am_I ((r.length + 1 : Nat) : Int)), some (am_I ((k + 1 : Nat) : Int))]) rfl rfl rfl rfl (am_we (by omega) (by omega) (by omega)) rfl ?_
        refine ax_goto (x := 13) rfl ?_
        have e : ru_ T ask (k + 1) = (if x = 0 then 1 else 0) :: r := by show st_ T ask k _ = _; simp [st_, h0, hr]
        simp only [h106, if_true, if_false] at e
        have g := ih (k + 1) (by omega) (am_sI σ' 143 (am_up (σ'.1 143) r.length 0)) (fr_sI hf (by decide)) (by rw [sI_at, e]; exact vr_set hv _)
        rw [e] at g
        exact g
      · refine ax_const (q := 110) (v := am_I 1) rfl rfl rfl ?_
        refine ax_goto (x := 114) rfl ?_
        refine ax_calls (q := 117) rfl rfl rfl rfl rfl ?_
        refine m_truthz (by omega) (Or.inr rfl) ?_
        refine bx_iast (q := 118) (k := r.length) rfl rfl (rfl) (by omega) (by omega) ?_
        refine ax_goto (x := 155) rfl ?_
        refine ax_iinc (q := 158) (z' := ((k + 1 : Nat) : Int)) (L' := [some (am_R 135), some (am_I ((r.length + 1 : Nat) : Int)), some (am_I ((k + 1 : Nat) : Int))]) rfl rfl rfl rfl (am_we (by omega) (by omega) (by omega)) rfl ?_
        refine ax_goto (x := 13) rfl ?_
        have e : ru_ T ask (k + 1) = (if x = 0 then 1 else 0) :: r := by show st_ T ask k _ = _; simp [st_, h0, hr]
        simp only [h106, if_true, if_false] at e
        have g := ih (k + 1) (by omega) (am_sI σ' 143 (am_up (σ'.1 143) r.length 1)) (fr_sI hf (by decide)) (by rw [sI_at, e]; exact vr_set hv _)
        rw [e] at g
        exact g
    · rw [← hlen] at h3
      obtain ⟨y, x, r, hr⟩ : ∃ y x r, ru_ T ask k = y :: x :: r := by
        match q : ru_ T ask k with
        | [] => rw [q] at h3; simp at h3
        | [y] => rw [q] at h3; simp at h3
        | y :: x :: r => exact ⟨y, x, r, rfl⟩
      rw [hr] at hv hlen ⊢
      rw [List.length_cons, List.length_cons] at hlen
      show aW d 0 k_X9_taught Q 13 [some (am_R 135), some (am_I ((r.length + 2 : Nat) : Int)), some (am_I ((k : Nat) : Int))] [] σ'
      refine ax_load (q := 14) rfl rfl rfl rfl rfl ?_
      refine ax_load (q := 15) rfl rfl rfl rfl rfl ?_
      refine ax_getf (q := 18) (v := am_I ((nF_ T : Nat) : Int)) rfl rfl (am_fg rfl ((congrFun (hf.1 135 (by decide)) _).trans (hT.s18.trans hn))) ?_
      refine ax_icmp_ge (q := 21) (x := 161) rfl rfl (fun h => absurd h (by omega)) (fun h18 => ?_)
      refine ax_load (q := 22) rfl rfl rfl rfl rfl ?_
      refine ax_getf (q := 25) (v := am_R 140) rfl rfl (rfl) ?_
      refine ax_load (q := 26) rfl rfl rfl rfl rfl ?_
      refine bx_iald (q := 27) (k := k) (z := T 140 k) rfl rfl (rfl) (by omega) (by omega) ((congrFun (hf.1 140 (by decide)) _).trans (congrFun hT.a140 _)) ?_
      refine ax_if_eq (q := 30) (x := 40) rfl rfl (fun h => absurd h (by omega)) (fun h27 => ?_)
      refine ax_load (q := 31) rfl rfl rfl rfl rfl ?_
      refine ax_getf (q := 34) (v := am_R 140) rfl rfl (rfl) ?_
      refine ax_load (q := 35) rfl rfl rfl rfl rfl ?_
      refine bx_iald (q := 36) (k := k) (z := T 140 k) rfl rfl (rfl) (by omega) (by omega) ((congrFun (hf.1 140 (by decide)) _).trans (congrFun hT.a140 _)) ?_
      refine ax_const (q := 37) (v := am_I 1) rfl rfl rfl ?_
      refine ax_icmp_ne (q := 40) (x := 81) rfl rfl (fun h37 => ?_) (fun h => absurd h (by omega))
      refine ax_load (q := 82) rfl rfl rfl rfl rfl ?_
      refine ax_getf (q := 85) (v := am_R 140) rfl rfl (rfl) ?_
      refine ax_load (q := 86) rfl rfl rfl rfl rfl ?_
      refine bx_iald (q := 87) (k := k) (z := T 140 k) rfl rfl (rfl) (by omega) (by omega) ((congrFun (hf.1 140 (by decide)) _).trans (congrFun hT.a140 _)) ?_
      refine ax_const (q := 88) (v := am_I 2) rfl rfl rfl ?_
      refine ax_icmp_ne (q := 91) (x := 121) rfl rfl (fun h88 => ?_) (fun h => absurd h (by omega))
      refine ax_iinc (q := 124) (z' := ((r.length + 1 : Nat) : Int)) (L' := [some (am_R 135), some (am_I ((r.length + 1 : Nat) : Int)), some (am_I ((k : Nat) : Int))]) rfl rfl rfl rfl (am_we (by omega) (by omega) (by omega)) rfl ?_
      refine ax_load (q := 125) rfl rfl rfl rfl rfl ?_
      refine ax_getf (q := 128) (v := am_R 143) rfl rfl (rfl) ?_
      refine ax_load (q := 129) rfl rfl rfl rfl rfl ?_
      refine ax_const (q := 130) (v := am_I 1) rfl rfl rfl ?_
      refine ax_isub (q := 131) (z := ((r.length : Nat) : Int)) rfl rfl (am_we (by omega) (by omega) (by omega)) ?_
      refine ax_load (q := 132) rfl rfl rfl rfl rfl ?_
      refine ax_getf (q := 135) (v := am_R 141) rfl rfl (rfl) ?_
      refine ax_load (q := 136) rfl rfl rfl rfl rfl ?_
      refine bx_iald (q := 137) (k := k) (z := T 141 k) rfl rfl (rfl) (by omega) (by omega) ((congrFun (hf.1 141 (by decide)) _).trans (congrFun hT.a141 _)) ?_
      refine ax_load (q := 138) rfl rfl rfl rfl rfl ?_
      refine ax_getf (q := 141) (v := am_R 143) rfl rfl (rfl) ?_
      refine ax_load (q := 142) rfl rfl rfl rfl rfl ?_
      refine ax_const (q := 143) (v := am_I 1) rfl rfl rfl ?_
      refine ax_isub (q := 144) (z := ((r.length : Nat) : Int)) rfl rfl (am_we (by omega) (by omega) (by omega)) ?_
      refine bx_iald (q := 145) (k := r.length) (z := x) rfl rfl (rfl) (by omega) (by omega) (vr_top (vr_pop hv)) ?_
      refine ax_load (q := 146) rfl rfl rfl rfl rfl ?_
      refine ax_getf (q := 149) (v := am_R 143) rfl rfl (rfl) ?_
      refine ax_load (q := 150) rfl rfl rfl rfl rfl ?_
      refine bx_iald (q := 151) (k := r.length + 1) (z := y) rfl rfl (rfl) (by omega) (by omega) (vr_top hv) ?_
      refine ax_calls (q := 154) rfl rfl rfl rfl rfl ?_
      refine m_worked (by omega) h2 ?_
      refine bx_iast (q := 155) (k := r.length) rfl rfl (rfl) (by omega) (by omega) ?_
      refine ax_iinc (q := 158) (z' := ((k + 1 : Nat) : Int)) (L' := [some (am_R 135), some (am_I ((r.length + 1 : Nat) : Int)), some (am_I ((k + 1 : Nat) : Int))]) rfl rfl rfl rfl (am_we (by omega) (by omega) (by omega)) rfl ?_
      refine ax_goto (x := 13) rfl ?_
      have e : ru_ T ask (k + 1) = wk_ (T 141 k) x y :: r := by show st_ T ask k _ = _; simp [st_, h0, hr]
      have g := ih (k + 1) (by omega) (am_sI σ' 143 (am_up (σ'.1 143) r.length (wk_ (T 141 k) x y))) (fr_sI hf (by decide)) (by rw [sI_at, e]; exact vr_set (vr_pop hv) _)
      rw [e] at g
      exact g

theorem m_taught {d : Nat} (hd : 4 ≤ d) {σ : am_S} {T : sp_T} (hT : TM_ T σ) (hV : TV_ T) {ask : Nat → Int} (hask : ∀ i, i < 4 → σ.1 144 i = ask i) {Q : Option am_V → am_S → Prop} (hQ : ∀ σ', fr_ [143] σ σ' → Q (some (am_I (gn_ T ask))) σ') : am_Ev d 173 [am_R 135] σ Q := by
  obtain ⟨d, rfl⟩ : ∃ e, d = e + 1 := ⟨d - 1, by omega⟩
  refine ev_in (m := 173) (c := k_X9_taught) (L := [some (am_R 135), none, none]) rfl rfl rfl rfl rfl rfl ?_
  refine ax_load (q := 1) rfl rfl rfl rfl rfl ?_
  refine ax_getf (q := 4) (v := am_I (T 135 60)) rfl rfl (am_fg rfl hT.s60) ?_
  refine ax_if_ne (q := 7) (x := 9) rfl rfl (fun h4 => ?_) (fun h4 => ?_)
  · refine ax_const (q := 10) (v := am_I 0) rfl rfl rfl ?_
    refine ax_store (q := 11) (L' := [some (am_R 135), some (am_I 0), none]) rfl rfl rfl rfl rfl rfl ?_
    refine ax_const (q := 12) (v := am_I 0) rfl rfl rfl ?_
    refine ax_store (q := 13) (L' := [some (am_R 135), some (am_I 0), some (am_I 0)]) rfl rfl rfl rfl rfl rfl ?_
    exact l_taught (by omega) hT hV hask h4 hQ (nF_ T) 0 (by omega) _ (fr_rf _ _) (fun i x h => by simp [ru_] at h)
  · refine ax_const (q := 8) (v := am_I 1) rfl rfl rfl ?_
    refine ax_ret (r := some (am_I 1)) rfl rfl ?_
    have e : gn_ T ask = 1 := by unfold gn_; rw [if_pos h4]
    rw [← e]
    exact hQ _ (fr_rf _ _)
theorem l_isUndone {d : Nat} (hd : 0 ≤ d) {σ : am_S} {T : sp_T} (hT : TM_ T σ) (hV : TV_ T) {b : Int} {v : sp_V} (ha : σ.1 164 = v) (hW : VV_ T b v) {o : Nat} (ho : o < nO_ T) {Q : Option am_V → am_S → Prop} (hQ : Q (some (am_I (if ud_ T v o then 1 else 0))) σ) : ∀ (m k : Nat), k + m = nO_ T → aW d 1 k_X9_isUndone Q 4 [some (am_R 135), some (am_I ((o : Nat) : Int)), some (am_I (if an_ k (fun u => tb_ (T 156 u) o && tb_ (v 48) u) then 1 else 0)), some (am_I ((k : Nat) : Int))] [] σ := by
  have hw := hW.2.1
  have hn := hV.nO
  intro m
  induction m with
  | zero =>
    intro k hk
    obtain rfl : k = nO_ T := by omega
    refine ax_load (q := 5) rfl rfl rfl rfl rfl ?_
    refine ax_load (q := 6) rfl rfl rfl rfl rfl ?_
    refine ax_getf (q := 9) (v := am_I ((nO_ T : Nat) : Int)) rfl rfl (am_fg rfl (hT.s51.trans hV.nO.1)) ?_
    refine ax_icmp_ge (q := 12) (x := 57) rfl rfl (fun h9 => ?_) (fun h => absurd h (by omega))
    refine ax_load (q := 58) rfl rfl rfl rfl rfl ?_
    refine ax_ret (r := some (am_I (if an_ (nO_ T) (fun u => tb_ (T 156 u) o && tb_ (v 48) u) then 1 else 0))) rfl ⟨rfl, by split <;> simp⟩ ?_
    exact hQ
  | succ m ih =>
    intro k hk
    have hu := hV.ud (o := k) (by omega)
    refine ax_load (q := 5) rfl rfl rfl rfl rfl ?_
    refine ax_load (q := 6) rfl rfl rfl rfl rfl ?_
    refine ax_getf (q := 9) (v := am_I ((nO_ T : Nat) : Int)) rfl rfl (am_fg rfl (hT.s51.trans hV.nO.1)) ?_
    refine ax_icmp_ge (q := 12) (x := 57) rfl rfl (fun h => absurd h (by omega)) (fun h9 => ?_)
    refine ax_load (q := 13) rfl rfl rfl rfl rfl ?_
    refine ax_if_ne (q := 16) (x := 45) rfl rfl (fun h13 => ?_) (fun h13 => ?_)
    · have hb13 := it_n0 h13
      refine ax_const (q := 46) (v := am_I 1) rfl rfl rfl ?_
      refine ax_goto (x := 50) rfl ?_
      refine ax_store (q := 51) (L' := [some (am_R 135), some (am_I ((o : Nat) : Int)), some (am_I 1), some (am_I ((k : Nat) : Int))]) rfl rfl rfl rfl rfl rfl ?_
      refine ax_iinc (q := 54) (z' := ((k + 1 : Nat) : Int)) (L' := [some (am_R 135), some (am_I ((o : Nat) : Int)), some (am_I 1), some (am_I ((k + 1 : Nat) : Int))]) rfl rfl rfl rfl (am_we (by omega) (by omega) (by omega)) rfl ?_
      refine ax_goto (x := 4) rfl ?_
      have e : an_ (k + 1) (fun u => tb_ (T 156 u) o && tb_ (v 48) u) = true := by show (an_ k _ || _) = _; simp [*]
      have g := ih (k + 1) (by omega)
      rw [e] at g
      exact g
    · have hb13 := it_0 h13
      refine ax_load (q := 17) rfl rfl rfl rfl rfl ?_
      refine ax_getf (q := 20) (v := am_R 156) rfl rfl (rfl) ?_
      refine ax_load (q := 21) rfl rfl rfl rfl rfl ?_
      refine bx_iald (q := 22) (k := k) (z := (((T 156 k).toNat : Nat) : Int)) rfl rfl (rfl) (by omega) (by omega) ((congrFun hT.a156 _).trans (by omega)) ?_
      refine ax_load (q := 23) rfl rfl rfl rfl rfl ?_
      refine ax_ishr (q := 24) (z := am_shr (((T 156 k).toNat : Nat) : Int) ((o : Nat) : Int)) rfl rfl (rfl) ?_
      refine ax_const (q := 25) (v := am_I 1) rfl rfl rfl ?_
      refine ax_iand (q := 26) (z := if tb_ (T 156 k) o then 1 else 0) rfl rfl (am_bit (by omega) (by omega)) ?_
      refine ax_const (q := 27) (v := am_I 1) rfl rfl rfl ?_
      refine ax_icmp_ne (q := 30) (x := 49) rfl rfl (fun h27 => ?_) (fun h27 => ?_)
      · have hb27 := it_n1 h27
        refine ax_const (q := 50) (v := am_I 0) rfl rfl rfl ?_
        refine ax_store (q := 51) (L' := [some (am_R 135), some (am_I ((o : Nat) : Int)), some (am_I 0), some (am_I ((k : Nat) : Int))]) rfl rfl rfl rfl rfl rfl ?_
        refine ax_iinc (q := 54) (z' := ((k + 1 : Nat) : Int)) (L' := [some (am_R 135), some (am_I ((o : Nat) : Int)), some (am_I 0), some (am_I ((k + 1 : Nat) : Int))]) rfl rfl rfl rfl (am_we (by omega) (by omega) (by omega)) rfl ?_
        refine ax_goto (x := 4) rfl ?_
        have e : an_ (k + 1) (fun u => tb_ (T 156 u) o && tb_ (v 48) u) = false := by show (an_ k _ || _) = _; simp [*]
        have g := ih (k + 1) (by omega)
        rw [e] at g
        exact g
      · have hb27 := it_1 h27
        refine ax_load (q := 31) rfl rfl rfl rfl rfl ?_
        refine ax_getf (q := 34) (v := am_R 164) rfl rfl (rfl) ?_
        refine ax_const (q := 36) (v := am_I 48) rfl rfl rfl ?_
        refine bx_iald (q := 37) (k := 48) (z := (((v 48).toNat : Nat) : Int)) rfl rfl (rfl) (by omega) (by omega) ((congrFun ha _).trans (by omega)) ?_
        refine ax_load (q := 38) rfl rfl rfl rfl rfl ?_
        refine ax_ishr (q := 39) (z := am_shr (((v 48).toNat : Nat) : Int) ((k : Nat) : Int)) rfl rfl (rfl) ?_
        refine ax_const (q := 40) (v := am_I 1) rfl rfl rfl ?_
        refine ax_iand (q := 41) (z := if tb_ (v 48) k then 1 else 0) rfl rfl (am_bit (by omega) (by omega)) ?_
        refine ax_const (q := 42) (v := am_I 1) rfl rfl rfl ?_
        refine ax_icmp_ne (q := 45) (x := 49) rfl rfl (fun h42 => ?_) (fun h42 => ?_)
        · have hb42 := it_n1 h42
          refine ax_const (q := 50) (v := am_I 0) rfl rfl rfl ?_
          refine ax_store (q := 51) (L' := [some (am_R 135), some (am_I ((o : Nat) : Int)), some (am_I 0), some (am_I ((k : Nat) : Int))]) rfl rfl rfl rfl rfl rfl ?_
          refine ax_iinc (q := 54) (z' := ((k + 1 : Nat) : Int)) (L' := [some (am_R 135), some (am_I ((o : Nat) : Int)), some (am_I 0), some (am_I ((k + 1 : Nat) : Int))]) rfl rfl rfl rfl (am_we (by omega) (by omega) (by omega)) rfl ?_
          refine ax_goto (x := 4) rfl ?_
          have e : an_ (k + 1) (fun u => tb_ (T 156 u) o && tb_ (v 48) u) = false := by show (an_ k _ || _) = _; simp [*]
          have g := ih (k + 1) (by omega)
          rw [e] at g
          exact g
        · have hb42 := it_1 h42
          refine ax_const (q := 46) (v := am_I 1) rfl rfl rfl ?_
          refine ax_goto (x := 50) rfl ?_
          refine ax_store (q := 51) (L' := [some (am_R 135), some (am_I ((o : Nat) : Int)), some (am_I 1), some (am_I ((k : Nat) : Int))]) rfl rfl rfl rfl rfl rfl ?_
          refine ax_iinc (q := 54) (z' := ((k + 1 : Nat) : Int)) (L' := [some (am_R 135), some (am_I ((o : Nat) : Int)), some (am_I 1), some (am_I ((k + 1 : Nat) : Int))]) rfl rfl rfl rfl (am_we (by omega) (by omega) (by omega)) rfl ?_
          refine ax_goto (x := 4) rfl ?_
          have e : an_ (k + 1) (fun u => tb_ (T 156 u) o && tb_ (v 48) u) = true := by show (an_ k _ || _) = _; simp [*]
          have g := ih (k + 1) (by omega)
          rw [e] at g
          exact g

theorem m_isUndone {d : Nat} (hd : 1 ≤ d) {σ : am_S} {T : sp_T} (hT : TM_ T σ) (hV : TV_ T) {b : Int} {v : sp_V} (ha : σ.1 164 = v) (hW : VV_ T b v) {o : Nat} (ho : o < nO_ T) {Q : Option am_V → am_S → Prop} (hQ : Q (some (am_I (if ud_ T v o then 1 else 0))) σ) : am_Ev d 195 [am_R 135, am_I ((o : Nat) : Int)] σ Q := by
  obtain ⟨d, rfl⟩ : ∃ e, d = e + 1 := ⟨d - 1, by omega⟩
  refine ev_in (m := 195) (c := k_X9_isUndone) (L := [some (am_R 135), some (am_I ((o : Nat) : Int)), none, none]) rfl rfl rfl rfl rfl rfl ?_
  refine ax_const (q := 1) (v := am_I 0) rfl rfl rfl ?_
  refine ax_store (q := 2) (L' := [some (am_R 135), some (am_I ((o : Nat) : Int)), some (am_I 0), none]) rfl rfl rfl rfl rfl rfl ?_
  refine ax_const (q := 3) (v := am_I 0) rfl rfl rfl ?_
  refine ax_store (q := 4) (L' := [some (am_R 135), some (am_I ((o : Nat) : Int)), some (am_I 0), some (am_I 0)]) rfl rfl rfl rfl rfl rfl ?_
  exact l_isUndone (by omega) hT hV ha hW ho hQ (nO_ T) 0 (by omega)

theorem m_openOf {d : Nat} (hd : 3 ≤ d) {σ : am_S} {T : sp_T} (hT : TM_ T σ) (hV : TV_ T) {b : Int} {v : sp_V} (ha : σ.1 164 = v) (hW : VV_ T b v) {p : Nat} (hp : p < nP_ T) {Q : Option am_V → am_S → Prop} (hQ : Q none (am_sI σ 164 (op_ T v p))) : am_Ev d 196 [am_R 135, am_I ((p : Nat) : Int)] σ Q := by
  obtain ⟨d, rfl⟩ : ∃ e, d = e + 1 := ⟨d - 1, by omega⟩
  have h6 := hV.nP
  have hO := hV.nO
  have hw := (hW.2.2 p hp).2.1
  have h48 := hW.2.1
  have hh : v (6 + p) < 0 ∨ ∃ o : Nat, v (6 + p) = (o : Int) ∧ o < nO_ T := by
    by_cases q : v (6 + p) < 0
    · exact Or.inl q
    · exact Or.inr ⟨(v (6 + p)).toNat, by omega, by omega⟩
  refine ev_in (m := 196) (c := k_X9_openOf) (L := [some (am_R 135), some (am_I ((p : Nat) : Int)), none]) rfl rfl rfl rfl rfl rfl ?_
  rcases hh with hh | ⟨o, ho, hon⟩

  · refine ax_load (q := 1) rfl rfl rfl rfl rfl ?_
    refine ax_getf (q := 4) (v := am_R 164) rfl rfl (rfl) ?_
    refine ax_const (q := 6) (v := am_I 6) rfl rfl rfl ?_
    refine ax_load (q := 7) rfl rfl rfl rfl rfl ?_
    refine ax_iadd (q := 8) (z := ((6 + p : Nat) : Int)) rfl rfl (am_we (by omega) (by omega) (by omega)) ?_
    refine bx_iald (q := 9) (k := 6 + p) (z := v (6 + p)) rfl rfl (rfl) (by omega) (by omega) (congrFun ha _) ?_
    refine ax_store (q := 10) (L' := [some (am_R 135), some (am_I ((p : Nat) : Int)), some (am_I (v (6 + p)))]) rfl rfl rfl rfl rfl rfl ?_
    refine ax_load (q := 11) rfl rfl rfl rfl rfl ?_
    refine ax_getf (q := 14) (v := am_R 164) rfl rfl (rfl) ?_
    refine ax_const (q := 16) (v := am_I 12) rfl rfl rfl ?_
    refine ax_load (q := 17) rfl rfl rfl rfl rfl ?_
    refine ax_iadd (q := 18) (z := ((12 + p : Nat) : Int)) rfl rfl (am_we (by omega) (by omega) (by omega)) ?_
    refine ax_load (q := 19) rfl rfl rfl rfl rfl ?_
    refine ax_if_ge (q := 22) (x := 26) rfl rfl (fun h => absurd h (by omega)) (fun h19 => ?_)
    refine ax_const (q := 23) (v := am_I 4) rfl rfl rfl ?_
    refine ax_goto (x := 48) rfl ?_
    refine bx_iast (q := 49) (k := 12 + p) rfl rfl (rfl) (by omega) (by omega) ?_
    refine ax_load (q := 50) rfl rfl rfl rfl rfl ?_
    refine ax_getf (q := 53) (v := am_R 164) rfl rfl (rfl) ?_
    refine ax_const (q := 55) (v := am_I 12) rfl rfl rfl ?_
    refine ax_load (q := 56) rfl rfl rfl rfl rfl ?_
    refine ax_iadd (q := 57) (z := ((12 + p : Nat) : Int)) rfl rfl (am_we (by omega) (by omega) (by omega)) ?_
    refine bx_iald (q := 58) (k := 12 + p) (z := 4) rfl rfl (rfl) (by omega) (by omega) (by rw [sI_at, am_up_same]) ?_
    refine ax_const (q := 59) (v := am_I 2) rfl rfl rfl ?_
    refine ax_icmp_ne (q := 62) (x := 75) rfl rfl (fun h59 => ?_) (fun h => absurd h (by decide))
    refine ax_ret (r := none) rfl rfl ?_
    have e : op_ T v p = am_up v (12 + p) 4 := by unfold op_; rw [if_pos hh]
    rw [e] at hQ
    rw [ha]
    exact hQ
  · refine ax_load (q := 1) rfl rfl rfl rfl rfl ?_
    refine ax_getf (q := 4) (v := am_R 164) rfl rfl (rfl) ?_
    refine ax_const (q := 6) (v := am_I 6) rfl rfl rfl ?_
    refine ax_load (q := 7) rfl rfl rfl rfl rfl ?_
    refine ax_iadd (q := 8) (z := ((6 + p : Nat) : Int)) rfl rfl (am_we (by omega) (by omega) (by omega)) ?_
    refine bx_iald (q := 9) (k := 6 + p) (z := ((o : Nat) : Int)) rfl rfl (rfl) (by omega) (by omega) ((congrFun ha _).trans ho) ?_
    refine ax_store (q := 10) (L' := [some (am_R 135), some (am_I ((p : Nat) : Int)), some (am_I ((o : Nat) : Int))]) rfl rfl rfl rfl rfl rfl ?_
    refine ax_load (q := 11) rfl rfl rfl rfl rfl ?_
    refine ax_getf (q := 14) (v := am_R 164) rfl rfl (rfl) ?_
    refine ax_const (q := 16) (v := am_I 12) rfl rfl rfl ?_
    refine ax_load (q := 17) rfl rfl rfl rfl rfl ?_
    refine ax_iadd (q := 18) (z := ((12 + p : Nat) : Int)) rfl rfl (am_we (by omega) (by omega) (by omega)) ?_
    refine ax_load (q := 19) rfl rfl rfl rfl rfl ?_
    refine ax_if_ge (q := 22) (x := 26) rfl rfl (fun h19 => ?_) (fun h => absurd h (by omega))
    refine ax_load (q := 27) rfl rfl rfl rfl rfl ?_
    refine ax_load (q := 28) rfl rfl rfl rfl rfl ?_
    refine ax_load (q := 29) rfl rfl rfl rfl rfl ?_
    refine ax_callv (q := 32) rfl rfl rfl rfl rfl rfl ?_
    refine m_can (by omega) hT hV ha (by omega) hon ?_
    refine ax_if_eq (q := 35) (x := 47) rfl rfl (fun h32 => ?_) (fun h32 => ?_)
    · have hb32 := it_0 h32
      refine ax_const (q := 48) (v := am_I 3) rfl rfl rfl ?_
      refine bx_iast (q := 49) (k := 12 + p) rfl rfl (rfl) (by omega) (by omega) ?_
      refine ax_load (q := 50) rfl rfl rfl rfl rfl ?_
      refine ax_getf (q := 53) (v := am_R 164) rfl rfl (rfl) ?_
      refine ax_const (q := 55) (v := am_I 12) rfl rfl rfl ?_
      refine ax_load (q := 56) rfl rfl rfl rfl rfl ?_
      refine ax_iadd (q := 57) (z := ((12 + p : Nat) : Int)) rfl rfl (am_we (by omega) (by omega) (by omega)) ?_
      refine bx_iald (q := 58) (k := 12 + p) (z := 3) rfl rfl (rfl) (by omega) (by omega) (by rw [sI_at, am_up_same]) ?_
      refine ax_const (q := 59) (v := am_I 2) rfl rfl rfl ?_
      refine ax_icmp_ne (q := 62) (x := 75) rfl rfl (fun h59 => ?_) (fun h => absurd h (by decide))
      refine ax_ret (r := none) rfl rfl ?_
      have e : op_ T v p = am_up v (12 + p) 3 := by
        unfold op_
        rw [if_neg (by omega), ho, show ((o : Int)).toNat = o by omega]
        simp [*]
      rw [e] at hQ
      rw [ha]
      exact hQ
    · have hb32 := it_n0 h32
      refine ax_load (q := 36) rfl rfl rfl rfl rfl ?_
      refine ax_load (q := 37) rfl rfl rfl rfl rfl ?_
      refine ax_callv (q := 40) rfl rfl rfl rfl rfl rfl ?_
      refine m_isUndone (by omega) hT hV ha hW hon ?_
      refine ax_if_ne (q := 43) (x := 47) rfl rfl (fun h40 => ?_) (fun h40 => ?_)
      · have hb40 := it_n0 h40
        refine ax_const (q := 48) (v := am_I 3) rfl rfl rfl ?_
        refine bx_iast (q := 49) (k := 12 + p) rfl rfl (rfl) (by omega) (by omega) ?_
        refine ax_load (q := 50) rfl rfl rfl rfl rfl ?_
        refine ax_getf (q := 53) (v := am_R 164) rfl rfl (rfl) ?_
        refine ax_const (q := 55) (v := am_I 12) rfl rfl rfl ?_
        refine ax_load (q := 56) rfl rfl rfl rfl rfl ?_
        refine ax_iadd (q := 57) (z := ((12 + p : Nat) : Int)) rfl rfl (am_we (by omega) (by omega) (by omega)) ?_
        refine bx_iald (q := 58) (k := 12 + p) (z := 3) rfl rfl (rfl) (by omega) (by omega) (by rw [sI_at, am_up_same]) ?_
        refine ax_const (q := 59) (v := am_I 2) rfl rfl rfl ?_
        refine ax_icmp_ne (q := 62) (x := 75) rfl rfl (fun h59 => ?_) (fun h => absurd h (by decide))
        refine ax_ret (r := none) rfl rfl ?_
        have e : op_ T v p = am_up v (12 + p) 3 := by
          unfold op_
          rw [if_neg (by omega), ho, show ((o : Int)).toNat = o by omega]
          simp [*]
        rw [e] at hQ
        rw [ha]
        exact hQ
      · have hb40 := it_0 h40
        refine ax_const (q := 44) (v := am_I 2) rfl rfl rfl ?_
        refine ax_goto (x := 48) rfl ?_
        refine bx_iast (q := 49) (k := 12 + p) rfl rfl (rfl) (by omega) (by omega) ?_
        refine ax_load (q := 50) rfl rfl rfl rfl rfl ?_
        refine ax_getf (q := 53) (v := am_R 164) rfl rfl (rfl) ?_
        refine ax_const (q := 55) (v := am_I 12) rfl rfl rfl ?_
        refine ax_load (q := 56) rfl rfl rfl rfl rfl ?_
        refine ax_iadd (q := 57) (z := ((12 + p : Nat) : Int)) rfl rfl (am_we (by omega) (by omega) (by omega)) ?_
        refine bx_iald (q := 58) (k := 12 + p) (z := 2) rfl rfl (rfl) (by omega) (by omega) (by rw [sI_at, am_up_same]) ?_
        refine ax_const (q := 59) (v := am_I 2) rfl rfl rfl ?_
        refine ax_icmp_ne (q := 62) (x := 75) rfl rfl (fun h => absurd h (by decide)) (fun h59 => ?_)
        refine ax_load (q := 63) rfl rfl rfl rfl rfl ?_
        refine ax_getf (q := 66) (v := am_R 164) rfl rfl (rfl) ?_
        refine ax_const (q := 68) (v := am_I 48) rfl rfl rfl ?_
        refine ax_dup2 (q := 69) rfl rfl rfl rfl ?_
        refine bx_iald (q := 70) (k := 48) (z := (((v 48).toNat : Nat) : Int)) rfl rfl (rfl) (by omega) (by omega) (by rw [sI_at, am_up_ne (by omega), ha]; omega) ?_
        refine ax_const (q := 71) (v := am_I 1) rfl rfl rfl ?_
        refine ax_load (q := 72) rfl rfl rfl rfl rfl ?_
        refine ax_ishl (q := 73) (z := ((2 ^ o : Nat) : Int)) rfl rfl (am_shl1 o (by omega)) ?_
        refine ax_ior (q := 74) (z := (((v 48).toNat ||| 2 ^ o : Nat) : Int)) rfl rfl (am_or_nat (by omega) (Nat.pow_lt_pow_right (by decide) (by omega))) ?_
        refine bx_iast (q := 75) (k := 48) rfl rfl (rfl) (by omega) (by omega) ?_
        refine ax_ret (r := none) rfl rfl ?_
        have e : op_ T v p = am_up (am_up v (12 + p) 2) 48 (((v 48).toNat ||| 2 ^ o : Nat) : Int) := by
          unfold op_
          rw [if_neg (by omega), ho, show ((o : Int)).toNat = o by omega, hb32, hb40]
          rfl
        rw [e] at hQ
        rw [sI_sI, sI_at, ha]
        exact hQ

