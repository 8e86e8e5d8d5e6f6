/-! what the readings give is within bounds -/
def sx_ (d : Nat) (x : Int × Int) : Nat := if x.1 = 0 ∨ x.1 = 1 then d + 1 else if x.1 = 2 then d else d - 1
def dl_ : Nat → List (Int × Int) → Nat
  | d, [] => d
  | d, x :: s => dl_ (sx_ d x) s
def opx_ (z : Int) : Prop := z = 43 ∨ z = 45 ∨ z = 42 ∨ z = 47 ∨ z = 37 ∨ z = 60 ∨ z = 62 ∨ z = 61 ∨ z = 38 ∨ z = 124
def okx_ (d : Nat) (x : Int × Int) : Prop := x.1 = 0 ∨ (x.1 = 1 ∧ 0 ≤ x.2 ∧ x.2 ≤ 3) ∨ (x.1 = 2 ∧ 1 ≤ d) ∨ (x.1 = 3 ∧ 2 ≤ d ∧ opx_ x.2)
def okl_ (b : Nat) : Nat → List (Int × Int) → Prop
  | _, [] => True
  | d, x :: s => okx_ d x ∧ sx_ d x ≤ b ∧ okl_ b (sx_ d x) s
theorem dl_app : ∀ (a : List (Int × Int)) (c : List (Int × Int)) (d : Nat), dl_ d (a ++ c) = dl_ (dl_ d a) c
  | [], _, _ => rfl
  | x :: a, c, d => dl_app a c (sx_ d x)
theorem okl_app (b : Nat) : ∀ (a : List (Int × Int)) (c : List (Int × Int)) (d : Nat), okl_ b d (a ++ c) ↔ okl_ b d a ∧ okl_ b (dl_ d a) c
  | [], _, _ => ⟨fun h => ⟨trivial, h⟩, fun h => h.2⟩
  | x :: a, c, d => by
    show (okx_ d x ∧ sx_ d x ≤ b ∧ okl_ b (sx_ d x) (a ++ c)) ↔ (okx_ d x ∧ sx_ d x ≤ b ∧ okl_ b (sx_ d x) a) ∧ okl_ b (dl_ (sx_ d x) a) c
    rw [okl_app b a c]
    constructor
    · rintro ⟨h1, h2, h3, h4⟩; exact ⟨⟨h1, h2, h3⟩, h4⟩
    · rintro ⟨⟨h1, h2, h3⟩, h4⟩; exact ⟨h1, h2, h3, h4⟩
def GW_ (s : List (Int × Int)) (v : Nat) : Prop := ∀ d b, d + v ≤ b → okl_ b d s ∧ dl_ d s = d + 1
def RW_ (n c : Nat) (X : Nat → Nat → sp_E) : Prop := ∀ p u p' u' s, p ≤ n → u ≤ 30 → X p u = Sum.inr (p', u', s) → p < p' ∧ p' ≤ n ∧ u < u' ∧ u' ≤ 30 ∧ GW_ s (u' - u) ∧ s.length + c ≤ 10 * (u' - u)
theorem sg_op (so w : Int) (h : sgh_ so w ≠ 0) : opx_ (sgh_ so w) := by
  revert h
  unfold sgh_ opx_
  split
  · intro _; decide
  · split
    · intro _; decide
    · split
      · next q => rcases q with q | q | q | q | q | q | q | q <;> rw [q] <;> intro _ <;> decide
      · intro h; exact absurd rfl h
theorem GW_.join {a c : List (Int × Int)} {x y : Nat} {z : Int} (ha : GW_ a x) (hc : GW_ c y) (hx : 1 ≤ x) (hz : opx_ z) : GW_ (a ++ c ++ [(3, z)]) (x + y) := by
  intro d b h
  obtain ⟨a1, a2⟩ := ha d b (by omega)
  obtain ⟨c1, c2⟩ := hc (d + 1) b (by omega)
  refine ⟨(okl_app b _ _ _).mpr ⟨(okl_app b _ _ _).mpr ⟨a1, by rw [a2]; exact c1⟩, ?_⟩, ?_⟩
  · rw [dl_app, a2, c2]
    exact ⟨Or.inr (Or.inr (Or.inr ⟨rfl, by omega, hz⟩)), by show d + 1 + 1 - 1 ≤ b; omega, trivial⟩
  · rw [dl_app, dl_app, a2, c2]
    rfl
theorem GW_.not {a : List (Int × Int)} {x : Nat} (ha : GW_ a x) (hx : 1 ≤ x) : GW_ (a ++ [(2, 0)]) x := by
  intro d b h
  obtain ⟨a1, a2⟩ := ha d b h
  refine ⟨(okl_app b _ _ _).mpr ⟨a1, ?_⟩, ?_⟩
  · rw [a2]
    exact ⟨Or.inr (Or.inr (Or.inl ⟨rfl, by omega⟩)), by show d + 1 ≤ b; omega, trivial⟩
  · rw [dl_app, a2]
    rfl
theorem GW_.le {a : List (Int × Int)} {x y : Nat} (ha : GW_ a x) (h : x ≤ y) : GW_ a y := fun d b hb => ha d b (by omega)
theorem rw_loop {tp : Nat → Int} {n c t : Nat} {X : Nat → Nat → sp_E} (h : RW_ n c X) (hc : 1 ≤ c) : RW_ n c (rdx_ tp n X t) := by
  intro p u p' u' s hp hu hX
  have key : ∀ j p1 u1 s1, p < p1 → p1 ≤ n → u < u1 → u1 ≤ 30 → GW_ s1 (u1 - u) → s1.length + c ≤ 10 * (u1 - u) → lp_ tp n X t j p1 u1 s1 = Sum.inr (p', u', s) → p < p' ∧ p' ≤ n ∧ u < u' ∧ u' ≤ 30 ∧ GW_ s (u' - u) ∧ s.length + c ≤ 10 * (u' - u) := by
    intro j
    induction j with
    | zero =>
      intro p1 u1 s1 h1 h2 h3 h4 h5 h6 h7
      injection h7 with h7; injection h7 with e1 h7; injection h7 with e2 e3
      subst e1 e2 e3
      exact ⟨h1, h2, h3, h4, h5, h6⟩
    | succ j ih =>
      intro p1 u1 s1 h1 h2 h3 h4 h5 h6 h7
      by_cases q : sg2_ tp n p1 ≠ 0 ∧ ti_ (sg2_ tp n p1) = t
      · rw [show lp_ tp n X t (j + 1) p1 u1 s1 = sb_ (X (nxp_ tp n p1) u1) fun r => lp_ tp n X t j r.1 r.2.1 (s1 ++ r.2.2 ++ [(3, sg2_ tp n p1)]) from if_pos q] at h7
        obtain ⟨⟨p2, u2, s2⟩, e1, e2⟩ := sb_in h7
        have hle := nxp_le (tp := tp) h2
        obtain ⟨f1, f2, f3, f4, f5, f6⟩ := h _ _ _ _ _ hle.2 h4 e1
        refine ih p2 u2 _ (by omega) f2 (by omega) f4 ?_ ?_ e2
        · have := GW_.join h5 f5 (by omega) (sg_op _ _ q.1)
          exact this.le (by omega)
        · simp only [List.length_append, List.length_cons, List.length_nil]
          omega
      · rw [show lp_ tp n X t (j + 1) p1 u1 s1 = Sum.inr (p1, u1, s1) from if_neg q] at h7
        injection h7 with h7; injection h7 with e1 h7; injection h7 with e2 e3
        subst e1 e2 e3
        exact ⟨h1, h2, h3, h4, h5, h6⟩
  unfold rdx_ at hX
  obtain ⟨⟨p2, u2, s2⟩, e1, e2⟩ := sb_in hX
  obtain ⟨f1, f2, f3, f4, f5, f6⟩ := h _ _ _ _ _ hp hu e1
  exact key 30 p2 u2 s2 f1 f2 f3 f4 f5 f6 e2
theorem rw_unit {tp : Nat → Int} {n : Nat} {ei : Option (Nat → Nat → sp_E)} (h : ∀ f, ei = some f → RW_ n 1 f) : RW_ n 8 (rdu_ tp n ei) := by
  intro p u p' u' s hp hu hX
  have hle := nxp_le (tp := tp) hp
  unfold rdu_ at hX
  split at hX
  · next h40 =>
    have hlt := nxp_lt hp (by omega) (by omega : tks_ tp n p ≠ 3)
    cases hei : ei with
    | none => rw [hei] at hX; cases hX
    | some f =>
      rw [hei] at hX
      dsimp only at hX
      split at hX
      · cases hX
      · next hu30 =>
        obtain ⟨⟨p2, u2, s2⟩, e1, e2⟩ := sb_in hX
        obtain ⟨f1, f2, f3, f4, f5, f6⟩ := h f hei _ _ _ _ _ hle.2 (by omega) e1
        dsimp only at e2
        split at e2
        · injection e2 with e2; injection e2 with a1 e2; injection e2 with a2 a3
          subst a1 a2 a3
          have hle2 := nxp_le (tp := tp) f2
          exact ⟨by omega, hle2.2, by omega, f4, f5.le (by omega), by omega⟩
        · cases e2
  · split at hX
    · cases hX
    · next h40 hb =>
      injection hX with hX; injection hX with a1 hX; injection hX with a2 a3
      subst a1 a2 a3
      have hk3 : tks_ tp n p ≠ 0 ∧ tks_ tp n p ≠ 3 := by
        by_cases w : tks_ tp n p = 2
        · omega
        · have : 0 ≤ as2_ tp n p := by
            by_cases v : as2_ tp n p < 0
            · exact absurd (Or.inl ⟨w, v⟩) hb
            · omega
          have h1 : tks_ tp n p = 1 := by
            by_cases v : tks_ tp n p = 1
            · exact v
            · unfold as2_ as_ at this
              rw [if_pos v] at this
              omega
          omega
      have hlt := nxp_lt hp hk3.1 hk3.2
      refine ⟨hlt, hle.2, by omega, by omega, ?_, by simp only [List.length_cons, List.length_nil]; omega⟩
      intro d b hd
      have has : as2_ tp n p ≤ 3 := by
        unfold as2_ as_
        (repeat' split) <;> omega
      have hx : sx_ d (sp1_ tp n p) = d + 1 := by
        unfold sx_ sp1_
        by_cases v : as2_ tp n p < 0
        · rw [if_pos v]; rfl
        · rw [if_neg v]; rfl
      refine ⟨⟨?_, by rw [hx]; omega, trivial⟩, hx⟩
      unfold okx_ sp1_
      by_cases v : as2_ tp n p < 0
      · exact Or.inl (if_pos v)
      · exact Or.inr (Or.inl ⟨if_neg v, by dsimp only; rw [if_neg v]; omega⟩)
theorem rw_rel {tp : Nat → Int} {n : Nat} {ei : Option (Nat → Nat → sp_E)} (h : RW_ n 8 (rds_ tp n ei)) : RW_ n 8 (rdr_ tp n ei) := by
  intro p u p' u' s hp hu hX
  unfold rdr_ at hX
  obtain ⟨⟨p2, u2, s2⟩, e1, e2⟩ := sb_in hX
  obtain ⟨f1, f2, f3, f4, f5, f6⟩ := h _ _ _ _ _ hp hu e1
  dsimp only at e2
  split at e2
  · next q =>
    have hle := nxp_le (tp := tp) f2
    obtain ⟨⟨p3, u3, s3⟩, d1, d2⟩ := sb_in e2
    obtain ⟨g1, g2, g3, g4, g5, g6⟩ := h _ _ _ _ _ hle.2 f4 d1
    injection d2 with d2; injection d2 with a1 d2; injection d2 with a2 a3
    dsimp only at a1 a2 a3
    subst a1 a2 a3
    refine ⟨by omega, g2, by omega, g4, (GW_.join f5 g5 (by omega) (sg_op _ _ q.1)).le (by omega), ?_⟩
    simp only [List.length_append, List.length_cons, List.length_nil]
    omega
  · injection e2 with e2; injection e2 with a1 e2; injection e2 with a2 a3
    subst a1 a2 a3
    exact ⟨f1, f2, f3, f4, f5, f6⟩
/-- one: each not ahead of it is a step more -/
def RO_ (n m : Nat) (X : Nat → Nat → sp_E) : Prop := ∀ p u p' u' s, p ≤ n → u ≤ 30 → X p u = Sum.inr (p', u', s) → p < p' ∧ p' ≤ n ∧ u < u' ∧ u' ≤ 30 ∧ GW_ s (u' - u) ∧ s.length + 8 ≤ 10 * (u' - u) + m
theorem rw_one {tp : Nat → Int} {n m : Nat} {ei on : Option (Nat → Nat → sp_E)} (hr : RW_ n 8 (rdr_ tp n ei)) (ho : ∀ f, on = some f → ∃ m', m = m' + 1 ∧ RO_ n m' f) : RO_ n m (rdo_ tp n ei on) := by
  intro p u p' u' s hp hu hX
  unfold rdo_ at hX
  split at hX
  · next hnt =>
    have hle := nxp_le (tp := tp) hp
    cases hon : on with
    | none => rw [hon] at hX; cases hX
    | some f =>
      rw [hon] at hX
      dsimp only at hX
      obtain ⟨m', rfl, hf⟩ := ho f hon
      obtain ⟨⟨p2, u2, s2⟩, e1, e2⟩ := sb_in hX
      obtain ⟨f1, f2, f3, f4, f5, f6⟩ := hf _ _ _ _ _ hle.2 hu e1
      injection e2 with e2; injection e2 with a1 e2; injection e2 with a2 a3
      dsimp only at a1 a2 a3
      subst a1 a2 a3
      refine ⟨by omega, f2, f3, f4, f5.not (by omega), ?_⟩
      simp only [List.length_append, List.length_cons, List.length_nil]
      omega
  · obtain ⟨f1, f2, f3, f4, f5, f6⟩ := hr _ _ _ _ _ hp hu hX
    exact ⟨f1, f2, f3, f4, f5, by omega⟩
theorem rw_all (tp : Nat → Int) (n : Nat) : ∀ m, m ≤ 7 → RO_ n m (rdl_ tp n m).1 ∧ RW_ n 1 (rdl_ tp n m).2 := by
  have step : ∀ m ei on, m ≤ 7 → (∀ f, ei = some f → RW_ n 1 f) → (∀ f, on = some f → ∃ m', m = m' + 1 ∧ RO_ n m' f) → RO_ n m (rdo_ tp n ei on) ∧ RW_ n 1 (rde_ tp n (rdo_ tp n ei on)) := by
    intro m ei on hm h1 h2
    have a7 : RW_ n 8 (rdu_ tp n ei) := rw_unit h1
    have a5 : RW_ n 8 (rds_ tp n ei) := rw_loop (rw_loop a7 (by omega)) (by omega)
    have a3 := rw_one (rw_rel a5) h2
    have a2 : RW_ n 1 (rdo_ tp n ei on) := fun p u p' u' s hp hu hX => by
      obtain ⟨f1, f2, f3, f4, f5, f6⟩ := a3 p u p' u' s hp hu hX
      exact ⟨f1, f2, f3, f4, f5, by omega⟩
    exact ⟨a3, rw_loop (rw_loop a2 (by omega)) (by omega)⟩
  intro m
  induction m with
  | zero => intro hm; exact step 0 none none hm (fun f h => by cases h) (fun f h => by cases h)
  | succ m ih =>
    intro hm
    have := ih (by omega)
    exact step (m + 1) (some (rdl_ tp n m).2) (some (rdl_ tp n m).1) hm (fun f h => by injection h with h; rw [← h]; exact this.2) (fun f h => by injection h with h; rw [← h]; exact ⟨m, rfl, this.1⟩)
theorem tea_in {tp : Nat → Int} {n p p' u : Nat} {s : List (Int × Int)} (hp : p ≤ n) (h : tea_ tp n p = Sum.inr (p', u, s)) : p ≤ p' ∧ p' ≤ n ∧ u ≤ 30 ∧ okl_ 30 0 s ∧ s.length ≤ 300 ∧ 0 < s.length := by
  rw [tea_eq tp hp] at h
  have hle := nxp_le (tp := tp) hp
  obtain ⟨f1, f2, f3, f4, f5, f6⟩ := (rw_all tp n 7 (by omega)).2 _ _ _ _ _ hle.2 (by omega) h
  have g := f5 0 30 (by omega)
  refine ⟨by omega, f2, f4, g.1, by omega, ?_⟩
  cases s with
  | nil => have := g.2; cases this
  | cons x s => exact Nat.succ_pos _
