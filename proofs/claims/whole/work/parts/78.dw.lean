/-! the table of what is told stays within its bounds, line by line; each line goes on in the text -/
theorem num_in {tp : Nat → Int} {n : Nat} {x y : Int} {p : Nat} {r : Int × Nat} (h : num_ tp n x y p = Sum.inr r) : x ≤ r.1 ∧ r.1 ≤ y ∧ r.2 = nxp_ tp n p := by
  unfold num_ at h
  split at h
  · cases h
  · split at h
    · next q => injection h with h; rw [← h]; exact ⟨q.1, q.2, rfl⟩
    · cases h
theorem tol_in {tp : Nat → Int} {n : Nat} {w x y : Int} {p : Nat} {r : Int × Nat} (h : tol_ tp n w x y p = Sum.inr r) (hp : p ≤ n) : x ≤ r.1 ∧ r.1 ≤ y ∧ p ≤ r.2 ∧ r.2 ≤ n := by
  unfold tol_ at h
  split at h
  · obtain ⟨a, b, c⟩ := num_in h
    have h1 := nxp_le (tp := tp) hp
    have h2 := nxp_le (tp := tp) h1.2
    rw [c]
    exact ⟨a, b, by omega, h2.2⟩
  · cases h
theorem opt_in {tp : Nat → Int} {n : Nat} {w x y z : Int} {p : Nat} {r : Int × Nat} (h : opt_ tp n w x y z p = Sum.inr r) (hp : p ≤ n) (hz : x ≤ z ∧ z ≤ y) : x ≤ r.1 ∧ r.1 ≤ y ∧ p ≤ r.2 ∧ r.2 ≤ n := by
  unfold opt_ at h
  split at h
  · obtain ⟨a, b, c⟩ := num_in h
    have h1 := nxp_le (tp := tp) hp
    have h2 := nxp_le (tp := tp) h1.2
    rw [c]
    exact ⟨a, b, by omega, h2.2⟩
  · injection h with h
    rw [← h]
    exact ⟨hz.1, hz.2, Nat.le_refl _, hp⟩
theorem nwn_in {tp : Nat → Int} {n : Nat} {g : Nat → Int} {b m p p' : Nat} (h : nwn_ tp n g b m p = Sum.inr p') : p' = nxp_ tp n (nxp_ tp n p) := by
  unfold nwn_ at h
  split at h
  · cases h
  · split at h
    · injection h with h; exact h.symm
    · cases h
theorem wan_in {tp : Nat → Int} {n : Nat} {w : Int} {p p' : Nat} (h : wan_ tp n w p = Sum.inr p') : p' = nxp_ tp n p := by
  unfold wan_ at h
  split at h
  · injection h with h; exact h.symm
  · cases h
theorem old_in2 {tp : Nat → Int} {n : Nat} {g : Nat → Int} {b m p : Nat} {r : Int × Nat} (h : old_ tp n g b m p = Sum.inr r) : r.2 = p ∧ 0 ≤ r.1 ∧ r.1 < m := by
  obtain ⟨a, p'⟩ := r
  obtain ⟨h1, k, h2, h3⟩ := old_in h
  exact ⟨h1, by rw [h2]; omega, by rw [h2]; omega⟩
theorem du_o {D : sp_T} {a k b : Nat} {z : Int} (h : b ≠ a) : du_ D a k z b = D b := by unfold du_; exact am_up_ne h
theorem du_s {D : sp_T} {a k : Nat} {z : Int} : du_ D a k z a = am_up (D a) k z := by unfold du_; exact am_up_same _ _ _
def B9_ (x lo hi : Int) : Prop := lo ≤ x ∧ x ≤ hi
def OR_ (nO nS : Nat) (a b c e f g : Nat → Int) : Prop := ∀ o, o < nO → (0 ≤ a o ∧ a o < nS) ∧ (0 ≤ b o ∧ b o ≤ 20) ∧ (0 ≤ c o ∧ c o ≤ 9) ∧ (0 ≤ e o ∧ e o ≤ 9) ∧ (1 ≤ f o ∧ f o ≤ 9) ∧ (0 ≤ g o ∧ g o ≤ 255)
def OD_ (nR : Nat) (f : Nat → Int) : Prop := ∀ q, q < nR → ∀ o, o < 8 → 0 ≤ f (8 * q + o) ∧ f (8 * q + o) ≤ 9
def PE_ (nP nR : Nat) (a b c : Nat → Int) : Prop := ∀ p, p < nP → (0 ≤ a p ∧ a p < nR) ∧ (0 ≤ b p ∧ b p ≤ 39) ∧ ∀ s, s < 4 → 0 ≤ c (4 * p + s) ∧ c (4 * p + s) ≤ 20
def TC_ (h st u : Int) (f8 f9 : Nat → Int) : Prop := (h = 0 → u = 0) ∧ (h = 0 ∨ h = 1) ∧ (∃ k : Nat, u = (k : Int) ∧ k ≤ 30) ∧ (h = 1 → ∃ s : List (Int × Int), ∃ g8 g9, st = ((s.length : Nat) : Int) ∧ s.length ≤ 300 ∧ 0 < s.length ∧ okl_ 30 0 s ∧ f8 = pe_ g8 0 (s.map (·.1)) ∧ f9 = pe_ g9 0 (s.map (·.2)))
def DW_ (D : sp_T) (nS nO nR nP nU : Nat) : Prop :=
  (D 135 43 = (nS : Int)) ∧ (D 135 44 = (nO : Int)) ∧ (D 135 45 = (nR : Int)) ∧ (D 135 46 = (nP : Int)) ∧ (D 135 47 = (nU : Int)) ∧ (nS ≤ 4) ∧ (nO ≤ 8) ∧ (nR ≤ 3) ∧ (nP ≤ 6) ∧ (nU ≤ 8) ∧ (OR_ nO nS (D 145) (D 146) (D 147) (D 148) (D 149) (D 150)) ∧ (OD_ nR (D 157)) ∧ (PE_ nP nR (D 159) (D 160) (D 161)) ∧ (TC_ (D 135 57) (D 135 17) (D 135 20) (D 138) (D 139)) ∧ (1 ≤ D 135 48 ∧ D 135 48 ≤ 60) ∧ (0 ≤ D 135 49 ∧ D 135 49 ≤ 999) ∧ (D 135 58 = 0 ∨ D 135 58 = 1) ∧ (D 135 59 = 0 ∨ D 135 59 = 1)
theorem DW_.hS {D : sp_T} {nS nO nR nP nU : Nat} (h : DW_ D nS nO nR nP nU) : D 135 43 = (nS : Int) := h.1
theorem DW_.hO {D : sp_T} {nS nO nR nP nU : Nat} (h : DW_ D nS nO nR nP nU) : D 135 44 = (nO : Int) := h.2.1
theorem DW_.hR {D : sp_T} {nS nO nR nP nU : Nat} (h : DW_ D nS nO nR nP nU) : D 135 45 = (nR : Int) := h.2.2.1
theorem DW_.hP {D : sp_T} {nS nO nR nP nU : Nat} (h : DW_ D nS nO nR nP nU) : D 135 46 = (nP : Int) := h.2.2.2.1
theorem DW_.hU {D : sp_T} {nS nO nR nP nU : Nat} (h : DW_ D nS nO nR nP nU) : D 135 47 = (nU : Int) := h.2.2.2.2.1
theorem DW_.S4 {D : sp_T} {nS nO nR nP nU : Nat} (h : DW_ D nS nO nR nP nU) : nS ≤ 4 := h.2.2.2.2.2.1
theorem DW_.O8 {D : sp_T} {nS nO nR nP nU : Nat} (h : DW_ D nS nO nR nP nU) : nO ≤ 8 := h.2.2.2.2.2.2.1
theorem DW_.R3 {D : sp_T} {nS nO nR nP nU : Nat} (h : DW_ D nS nO nR nP nU) : nR ≤ 3 := h.2.2.2.2.2.2.2.1
theorem DW_.P6 {D : sp_T} {nS nO nR nP nU : Nat} (h : DW_ D nS nO nR nP nU) : nP ≤ 6 := h.2.2.2.2.2.2.2.2.1
theorem DW_.U8 {D : sp_T} {nS nO nR nP nU : Nat} (h : DW_ D nS nO nR nP nU) : nU ≤ 8 := h.2.2.2.2.2.2.2.2.2.1
theorem DW_.or {D : sp_T} {nS nO nR nP nU : Nat} (h : DW_ D nS nO nR nP nU) : OR_ nO nS (D 145) (D 146) (D 147) (D 148) (D 149) (D 150) := h.2.2.2.2.2.2.2.2.2.2.1
theorem DW_.od {D : sp_T} {nS nO nR nP nU : Nat} (h : DW_ D nS nO nR nP nU) : OD_ nR (D 157) := h.2.2.2.2.2.2.2.2.2.2.2.1
theorem DW_.pe {D : sp_T} {nS nO nR nP nU : Nat} (h : DW_ D nS nO nR nP nU) : PE_ nP nR (D 159) (D 160) (D 161) := h.2.2.2.2.2.2.2.2.2.2.2.2.1
theorem DW_.tc {D : sp_T} {nS nO nR nP nU : Nat} (h : DW_ D nS nO nR nP nU) : TC_ (D 135 57) (D 135 17) (D 135 20) (D 138) (D 139) := h.2.2.2.2.2.2.2.2.2.2.2.2.2.1
theorem DW_.op {D : sp_T} {nS nO nR nP nU : Nat} (h : DW_ D nS nO nR nP nU) : 1 ≤ D 135 48 ∧ D 135 48 ≤ 60 := h.2.2.2.2.2.2.2.2.2.2.2.2.2.2.1
theorem DW_.dr {D : sp_T} {nS nO nR nP nU : Nat} (h : DW_ D nS nO nR nP nU) : 0 ≤ D 135 49 ∧ D 135 49 ≤ 999 := h.2.2.2.2.2.2.2.2.2.2.2.2.2.2.2.1
theorem DW_.o1 {D : sp_T} {nS nO nR nP nU : Nat} (h : DW_ D nS nO nR nP nU) : D 135 58 = 0 ∨ D 135 58 = 1 := h.2.2.2.2.2.2.2.2.2.2.2.2.2.2.2.2.1
theorem DW_.d1 {D : sp_T} {nS nO nR nP nU : Nat} (h : DW_ D nS nO nR nP nU) : D 135 59 = 0 ∨ D 135 59 = 1 := h.2.2.2.2.2.2.2.2.2.2.2.2.2.2.2.2.2
theorem DW_.dv {D : sp_T} {nS nO nR nP nU : Nat} (h : DW_ D nS nO nR nP nU) : DV_ D nS nO nR nP nU :=
  ⟨h.hS, h.hO, h.hR, h.hP, h.hU, h.S4, h.O8, h.R3, h.P6, h.U8, fun o ho => (h.or o ho).2.2.2.2.2, h.tc.1, h.tc.2.1, h.o1, h.d1⟩
theorem OR_.add {nO nS : Nat} {a b c e f g : Nat → Int} (h : OR_ nO nS a b c e f g) {x y z w v u : Int} (hx : 0 ≤ x ∧ x < nS) (hy : 0 ≤ y ∧ y ≤ 20) (hz : 0 ≤ z ∧ z ≤ 9) (hw : 0 ≤ w ∧ w ≤ 9) (hv : 1 ≤ v ∧ v ≤ 9) (hu : 0 ≤ u ∧ u ≤ 255) : OR_ (nO + 1) nS (am_up a nO x) (am_up b nO y) (am_up c nO z) (am_up e nO w) (am_up f nO v) (am_up g nO u) := by
  intro o ho
  by_cases q : o = nO
  · subst q
    rw [am_up_same, am_up_same, am_up_same, am_up_same, am_up_same, am_up_same]
    exact ⟨hx, hy, hz, hw, hv, hu⟩
  · rw [am_up_ne q, am_up_ne q, am_up_ne q, am_up_ne q, am_up_ne q, am_up_ne q]
    exact h o (by omega)
theorem lev_in {tp : Nat → Int} {n nS k : Nat} (hS : nS ≤ 4) : ∀ (m : Nat) (D : sp_T) (p h : Nat) {r : sp_T × Nat}, lev_ tp n nS k m D p h = Sum.inr r → p ≤ n → (∀ s, s < 4 → 0 ≤ D 161 (4 * k + s) ∧ D 161 (4 * k + s) ≤ 20) → p ≤ r.2 ∧ r.2 ≤ n ∧ (∀ b, b ≠ 161 → r.1 b = D b) ∧ (∀ j, (j < 4 * k ∨ 4 * k + 4 ≤ j) → r.1 161 j = D 161 j) ∧ (∀ s, s < 4 → 0 ≤ r.1 161 (4 * k + s) ∧ r.1 161 (4 * k + s) ≤ 20) := by
  intro m
  induction m with
  | zero => intro D p h r e; cases e
  | succ m ih =>
    intro D p h r e hp hb
    rw [lev_] at e
    split at e
    · injection e with e; rw [← e]; exact ⟨Nat.le_refl _, hp, fun _ _ => rfl, fun _ _ => rfl, hb⟩
    · obtain ⟨a, e1, e2⟩ := sb_in e
      split at e2
      · cases e2
      · obtain ⟨b, e3, e4⟩ := sb_in e2
        obtain ⟨a1, a2, a3⟩ := old_in2 e1
        obtain ⟨b1, b2, b3⟩ := num_in e3
        have h1 := nxp_le (tp := tp) hp
        have h2 := nxp_le (tp := tp) h1.2
        obtain ⟨c1, c2, c3, c4, c5⟩ := ih _ _ _ e4 (by rw [b3]; exact h2.2) (fun s hs => by
          rw [du_s]
          by_cases q : 4 * k + s = 4 * k + a.1.toNat
          · rw [q, am_up_same]; exact ⟨b1, b2⟩
          · rw [am_up_ne q]; exact hb s hs)
        refine ⟨by omega, c2, fun x hx => (c3 x hx).trans (du_o hx), fun j hj => ?_, c5⟩
        rw [c4 j hj, du_s, am_up_ne (by omega)]
theorem odd_in {tp : Nat → Int} {n : Nat} {g f : Nat → Int} {nR nO p : Nat} {r : Int × Nat} (h : (odd_ tp n g f nR nO p).1 = Sum.inr r) (hp : p ≤ n) (hO : nO ≤ 8) : 1 ≤ r.1 ∧ r.1 ≤ 9 ∧ nxp_ tp n p ≤ r.2 ∧ r.2 ≤ n ∧ ∃ q o, q < nR ∧ o < nO ∧ (odd_ tp n g f nR nO p).2 = 8 * q + o := by
  have h1 := nxp_le (tp := tp) hp
  have h2 := nxp_le (tp := tp) h1.2
  have h3 := nxp_le (tp := tp) h2.2
  have h4 := nxp_le (tp := tp) h3.2
  revert h
  unfold odd_
  cases e1 : old_ tp n g 12 nR (nxp_ tp n p) with
  | inl e => intro h; cases h
  | inr a =>
    obtain ⟨a, pa⟩ := a
    dsimp only
    cases e2 : old_ tp n g 4 nO (nxp_ tp n (nxp_ tp n p)) with
    | inl e => intro h; cases h
    | inr b =>
      obtain ⟨b, pb⟩ := b
      dsimp only
      split
      · intro h; cases h
      · intro h
        obtain ⟨b1, b2, b3⟩ := num_in h
        have a1 := old_in2 e1
        have a2 := old_in2 e2
        dsimp only at a1 a2
        exact ⟨b1, b2, by omega, by omega, a.toNat, b.toNat, by omega, by omega, rfl⟩
theorem und_in {tp : Nat → Int} {n : Nat} {g f : Nat → Int} {nO p p' : Nat} (h : (und_ tp n g f nO p).1 = Sum.inr p') (hp : p ≤ n) : nxp_ tp n p ≤ p' ∧ p' ≤ n ∧ (und_ tp n g f nO p).2.1 < nO ∧ (und_ tp n g f nO p).2.2 < nO := by
  have h1 := nxp_le (tp := tp) hp
  have h2 := nxp_le (tp := tp) h1.2
  have h3 := nxp_le (tp := tp) h2.2
  revert h
  unfold und_
  cases e1 : old_ tp n g 4 nO (nxp_ tp n p) with
  | inl e => intro h; cases h
  | inr a =>
    obtain ⟨a, pa⟩ := a
    dsimp only
    cases e2 : old_ tp n g 4 nO (nxp_ tp n (nxp_ tp n p)) with
    | inl e => intro h; cases h
    | inr b =>
      obtain ⟨b, pb⟩ := b
      dsimp only
      split
      · intro h; cases h
      · intro h
        have a1 := old_in2 e1
        have a2 := old_in2 e2
        dsimp only at a1 a2
        injection h with h
        subst h
        exact ⟨by omega, h3.2, by dsimp only; omega, by dsimp only; omega⟩
theorem OD_.add {nR : Nat} {f : Nat → Int} (h : OD_ nR f) : OD_ (nR + 1) (cd_ (fun _ => 0) f (8 * nR) 8) := by
  intro q hq o ho
  by_cases e : q = nR
  · subst e; rw [cd_in ho]; decide
  · rw [cd_out (by omega)]; exact h q (by omega) o ho
theorem OD_.up {nR : Nat} {f : Nat → Int} (h : OD_ nR f) {i : Nat} {z : Int} (hz : 1 ≤ z ∧ z ≤ 9) : OD_ nR (am_up f i z) := by
  intro q hq o ho
  by_cases e : 8 * q + o = i
  · rw [e, am_up_same]; omega
  · rw [am_up_ne e]; exact h q hq o ho
theorem PE_.mono {nP nR : Nat} {a b c : Nat → Int} (h : PE_ nP nR a b c) : PE_ nP (nR + 1) a b c := fun p hp => ⟨⟨(h p hp).1.1, by have := (h p hp).1.2; omega⟩, (h p hp).2⟩
theorem OR_.mono {nO nS : Nat} {a b c e f g : Nat → Int} (h : OR_ nO nS a b c e f g) : OR_ nO (nS + 1) a b c e f g := fun p hp => ⟨⟨(h p hp).1.1, by have := (h p hp).1.2; omega⟩, (h p hp).2⟩
theorem OR_.und {nO nS : Nat} {a b c e f g : Nat → Int} (h : OR_ nO nS a b c e f g) {i : Nat} {z : Int} (hz : 0 ≤ z ∧ z ≤ 255) : OR_ nO nS a b c e f (am_up g i z) := by
  intro o ho
  have := h o ho
  by_cases q : o = i
  · rw [q, am_up_same, ← q]; exact ⟨this.1, this.2.1, this.2.2.1, this.2.2.2.1, this.2.2.2.2.1, hz⟩
  · rw [am_up_ne q]; exact this
/-- one line more: the text goes on, and the table is within its bounds -/
theorem lin_in {tp : Nat → Int} {n : Nat} {D : sp_T} {p : Nat} {nS nO nR nP nU : Nat} (hV : DW_ D nS nO nR nP nU) (hp : p ≤ n) {r : sp_T × Nat} (h : lin_ tp n D p = Sum.inr r) : p < r.2 ∧ r.2 ≤ n ∧ ∃ mS mO mR mP mU, DW_ r.1 mS mO mR mP mU := by
  have tS : (D 135 43).toNat = nS := by rw [hV.hS]; exact Int.toNat_natCast _
  have tO : (D 135 44).toNat = nO := by rw [hV.hO]; exact Int.toNat_natCast _
  have tR : (D 135 45).toNat = nR := by rw [hV.hR]; exact Int.toNat_natCast _
  have tP : (D 135 46).toNat = nP := by rw [hV.hP]; exact Int.toNat_natCast _
  have tU : (D 135 47).toNat = nU := by rw [hV.hU]; exact Int.toNat_natCast _
  have h1 := nxp_le (tp := tp) hp
  have h2 := nxp_le (tp := tp) h1.2
  have h3 := nxp_le (tp := tp) h2.2
  have hS4 := hV.S4
  have lt : ∀ w, wd_ tp n p w → p < nxp_ tp n p := fun w hw => nxp_lt hp (by rw [hw.1]; decide) (by rw [hw.1]; decide)
  unfold lin_ at h
  rw [tS, tO, tR, tP, tU] at h
  split at h
  · next c =>
    obtain ⟨p', e1, e2⟩ := sb_in h
    have e3 := nwn_in e1
    have := lt _ c.1
    have hc := c.2
    rw [hV.hS] at hc
    injection e2 with e2
    subst e2
    refine ⟨by dsimp only; omega, by dsimp only; omega, nS + 1, nO, nR, nP, nU, ?_⟩
    refine ⟨?_, ?_, ?_, ?_, ?_, by omega, hV.O8, hV.R3, hV.P6, hV.U8, ?_, ?_, ?_, ?_, ?_, ?_, ?_, ?_⟩
    · simp [du_, am_up]
    · simpa [du_, am_up] using hV.hO
    · simpa [du_, am_up] using hV.hR
    · simpa [du_, am_up] using hV.hP
    · simpa [du_, am_up] using hV.hU
    · simpa [du_, am_up] using hV.or.mono
    · simpa [du_, am_up] using hV.od
    · simpa [du_, am_up] using hV.pe
    · simpa [du_, am_up] using hV.tc
    · simpa [du_, am_up] using hV.op
    · simpa [du_, am_up] using hV.dr
    · simpa [du_, am_up] using hV.o1
    · simpa [du_, am_up] using hV.d1
  · split at h
    · next c =>
      have hc := c.2
      rw [hV.hO] at hc
      have := lt _ c.1
      unfold ord_ at h
      obtain ⟨p1, e1, h⟩ := sb_in h
      obtain ⟨p2, e2, h⟩ := sb_in h
      obtain ⟨a, e3, h⟩ := sb_in h
      obtain ⟨b, e4, h⟩ := sb_in h
      obtain ⟨x, e5, h⟩ := sb_in h
      obtain ⟨y, e6, h⟩ := sb_in h
      obtain ⟨z, e7, hL⟩ := sb_in h
      have f1 := nwn_in e1
      have f2 := wan_in e2
      have f3 := old_in2 e3
      have f4 := num_in e4
      have l4 := nxp_le (tp := tp) h3.2
      have l5 := nxp_le (tp := tp) l4.2
      subst f1 f2
      have f5 := opt_in e5 (by rw [f4.2.2]; exact l5.2) (by decide)
      have f6 := opt_in e6 f5.2.2.2 (by decide)
      have f7 := opt_in e7 f6.2.2.2 (by decide)
      have hL := Sum.inr.inj hL
      subst hL
      have e4' := f4.2.2
      refine ⟨by dsimp only; omega, f7.2.2.2, nS, nO + 1, nR, nP, nU, ?_⟩
      refine ⟨?_, ?_, ?_, ?_, ?_, hV.S4, by omega, hV.R3, hV.P6, hV.U8, ?_, ?_, ?_, ?_, ?_, ?_, ?_, ?_⟩
      · simpa [du_, am_up] using hV.hS
      · simp [du_, am_up]
      · simpa [du_, am_up] using hV.hR
      · simpa [du_, am_up] using hV.hP
      · simpa [du_, am_up] using hV.hU
      · have := hV.or.add (x := a.1) (y := b.1) (z := x.1) (w := y.1) (v := z.1) (u := 0) ⟨f3.2.1, f3.2.2⟩ ⟨f4.1, f4.2.1⟩ ⟨f5.1, f5.2.1⟩ ⟨f6.1, f6.2.1⟩ ⟨f7.1, f7.2.1⟩ (by decide)
        simp only [du_o, du_s, ne_eq, Nat.reduceEqDiff, not_false_eq_true]
        exact this
      · simpa [du_, am_up] using hV.od
      · simpa [du_, am_up] using hV.pe
      · simpa [du_, am_up] using hV.tc
      · simpa [du_, am_up] using hV.op
      · simpa [du_, am_up] using hV.dr
      · simpa [du_, am_up] using hV.o1
      · simpa [du_, am_up] using hV.d1
    · split at h
      · next c =>
        obtain ⟨p', e1, e2⟩ := sb_in h
        have e3 := nwn_in e1
        have := lt _ c.1
        have hc := c.2
        rw [hV.hR] at hc
        injection e2 with e2
        subst e2
        refine ⟨by dsimp only; omega, by dsimp only; omega, nS, nO, nR + 1, nP, nU, ?_⟩
        refine ⟨?_, ?_, ?_, ?_, ?_, hV.S4, hV.O8, by omega, hV.P6, hV.U8, ?_, ?_, ?_, ?_, ?_, ?_, ?_, ?_⟩
        · simpa [du_, am_up] using hV.hS
        · simpa [du_, am_up] using hV.hO
        · simp [du_, am_up]
        · simpa [du_, am_up] using hV.hP
        · simpa [du_, am_up] using hV.hU
        · simpa [du_, am_up] using hV.or
        · dsimp only; rw [du_o (by decide), am_up_same]; exact hV.od.add
        · simpa [du_, am_up] using hV.pe.mono
        · simpa [du_, am_up] using hV.tc
        · simpa [du_, am_up] using hV.op
        · simpa [du_, am_up] using hV.dr
        · simpa [du_, am_up] using hV.o1
        · simpa [du_, am_up] using hV.d1
      · split at h
        · next c =>
          obtain ⟨a, e1, e2⟩ := sb_in h
          have := lt _ c
          obtain ⟨o1, o2, o3, o4, q, o, o5, o6, o7⟩ := odd_in e1 hp hV.O8
          injection e2 with e2
          subst e2
          refine ⟨by dsimp only; omega, o4, nS, nO, nR, nP, nU, ?_⟩
          refine ⟨?_, ?_, ?_, ?_, ?_, hV.S4, hV.O8, hV.R3, hV.P6, hV.U8, ?_, ?_, ?_, ?_, ?_, ?_, ?_, ?_⟩
          · simpa [du_, am_up] using hV.hS
          · simpa [du_, am_up] using hV.hO
          · simpa [du_, am_up] using hV.hR
          · simpa [du_, am_up] using hV.hP
          · simpa [du_, am_up] using hV.hU
          · simpa [du_, am_up] using hV.or
          · dsimp only; rw [du_s]; exact hV.od.up ⟨o1, o2⟩
          · simpa [du_, am_up] using hV.pe
          · simpa [du_, am_up] using hV.tc
          · simpa [du_, am_up] using hV.op
          · simpa [du_, am_up] using hV.dr
          · simpa [du_, am_up] using hV.o1
          · simpa [du_, am_up] using hV.d1
        · split at h
          · next c =>
            have hc := c.2
            rw [hV.hP] at hc
            have := lt _ c.1
            unfold per_ at h
            obtain ⟨p1, e1, h⟩ := sb_in h
            obtain ⟨p2, e2, h⟩ := sb_in h
            obtain ⟨a, e3, h⟩ := sb_in h
            obtain ⟨b, e4, h⟩ := sb_in h
            obtain ⟨x, e5, hL⟩ := sb_in h
            have f1 := nwn_in e1
            have f2 := wan_in e2
            subst f1 f2
            have f3 := old_in2 e3
            have l4 := nxp_le (tp := tp) h3.2
            have f4 := tol_in e4 l4.2
            have f5 := lev_in hV.S4 _ _ _ _ e5 f4.2.2.2 (fun s hs => by
              rw [du_s, du_s, du_s, du_s]
              rcases (by omega : s = 0 ∨ s = 1 ∨ s = 2 ∨ s = 3) with rfl | rfl | rfl | rfl <;> simp [am_up])
            have hL := Sum.inr.inj hL
            subst hL
            obtain ⟨g1, g2, g3, g4, g5⟩ := f5
            refine ⟨by dsimp only; omega, g2, nS, nO, nR, nP + 1, nU, ?_⟩
            have k5 := g3 135 (by decide)
            have k161 : ∀ j, j < 4 * nP → x.1 161 j = D 161 j := fun j hj => by
              rw [g4 j (Or.inl hj), du_s, du_s, du_s, du_s, am_up_ne (by omega), am_up_ne (by omega), am_up_ne (by omega), am_up_ne (by omega), du_o (by decide), du_o (by decide), du_o (by decide)]
            refine ⟨?_, ?_, ?_, ?_, ?_, hV.S4, hV.O8, hV.R3, by omega, hV.U8, ?_, ?_, ?_, ?_, ?_, ?_, ?_, ?_⟩
            · dsimp only; rw [du_s, am_up_ne (by decide), k5]; simpa [du_, am_up] using hV.hS
            · dsimp only; rw [du_s, am_up_ne (by decide), k5]; simpa [du_, am_up] using hV.hO
            · dsimp only; rw [du_s, am_up_ne (by decide), k5]; simpa [du_, am_up] using hV.hR
            · dsimp only; rw [du_s, am_up_same]
            · dsimp only; rw [du_s, am_up_ne (by decide), k5]; simpa [du_, am_up] using hV.hU
            · dsimp only
              rw [du_o (by decide), du_o (by decide), du_o (by decide), du_o (by decide), du_o (by decide), du_o (by decide), g3 145 (by decide), g3 146 (by decide), g3 147 (by decide), g3 148 (by decide), g3 149 (by decide), g3 150 (by decide)]
              simpa [du_, am_up] using hV.or
            · dsimp only; rw [du_o (by decide), g3 157 (by decide)]; simpa [du_, am_up] using hV.od
            · dsimp only
              rw [du_o (by decide), du_o (by decide), du_o (by decide), g3 159 (by decide), g3 160 (by decide)]
              intro j hj
              by_cases q : j = nP
              · subst q
                refine ⟨?_, ?_, fun s hs => g5 s hs⟩
                · simp only [du_o, du_s, am_up_same, ne_eq, Nat.reduceEqDiff, not_false_eq_true]
                  exact ⟨f3.2.1, f3.2.2⟩
                · simp only [du_o, du_s, am_up_same, ne_eq, Nat.reduceEqDiff, not_false_eq_true]
                  exact ⟨f4.1, f4.2.1⟩
              · have hj' := hV.pe j (by omega)
                refine ⟨?_, ?_, fun s hs => by rw [k161 _ (by omega)]; exact hj'.2.2 s hs⟩
                · simp only [du_o, du_s, am_up_ne q, ne_eq, Nat.reduceEqDiff, not_false_eq_true]
                  exact hj'.1
                · simp only [du_o, du_s, am_up_ne q, ne_eq, Nat.reduceEqDiff, not_false_eq_true]
                  exact hj'.2.1
            · dsimp only; rw [du_s, am_up_ne (by decide), am_up_ne (by decide), am_up_ne (by decide), du_o (D := x.1) (b := 138) (by decide), du_o (D := x.1) (b := 139) (by decide), g3 138 (by decide), g3 139 (by decide), k5]; simpa [du_, am_up] using hV.tc
            · dsimp only; rw [du_s, am_up_ne (by decide), k5]; simpa [du_, am_up] using hV.op
            · dsimp only; rw [du_s, am_up_ne (by decide), k5]; simpa [du_, am_up] using hV.dr
            · dsimp only; rw [du_s, am_up_ne (by decide), k5]; simpa [du_, am_up] using hV.o1
            · dsimp only; rw [du_s, am_up_ne (by decide), k5]; simpa [du_, am_up] using hV.d1
          · split at h
            · next c =>
              obtain ⟨p', e1, e2⟩ := sb_in h
              have := lt _ c.1
              have hc := c.2
              rw [hV.hU] at hc
              obtain ⟨o1, o2, o3, o4⟩ := und_in e1 hp
              injection e2 with e2
              subst e2
              refine ⟨by dsimp only; omega, o2, nS, nO, nR, nP, nU + 1, ?_⟩
              refine ⟨?_, ?_, ?_, ?_, ?_, hV.S4, hV.O8, hV.R3, hV.P6, by omega, ?_, ?_, ?_, ?_, ?_, ?_, ?_, ?_⟩
              · simpa [du_, am_up] using hV.hS
              · simpa [du_, am_up] using hV.hO
              · simpa [du_, am_up] using hV.hR
              · simpa [du_, am_up] using hV.hP
              · simp [du_, am_up]
              · dsimp only
                rw [du_o (by decide), du_o (by decide), du_o (by decide), du_o (by decide), du_o (by decide), du_o (by decide), du_o (by decide), du_o (by decide), du_o (by decide), du_o (by decide), du_o (by decide), du_s]
                refine hV.or.und ?_
                have hb := (hV.or _ o3).2.2.2.2.2
                have hO8 := hV.O8
                have : (D 150 (und_ tp n (D 137) (D 150) nO p).2.1).toNat ||| 2 ^ (und_ tp n (D 137) (D 150) nO p).2.2 < 2 ^ 8 := Nat.or_lt_two_pow (by omega) (Nat.pow_lt_pow_right (by decide) (by omega))
                omega
              · simpa [du_, am_up] using hV.od
              · simpa [du_, am_up] using hV.pe
              · simpa [du_, am_up] using hV.tc
              · simpa [du_, am_up] using hV.op
              · simpa [du_, am_up] using hV.dr
              · simpa [du_, am_up] using hV.o1
              · simpa [du_, am_up] using hV.d1
            · split at h
              · next c =>
                obtain ⟨⟨p', u, s⟩, e1, e2⟩ := sb_in h
                have := lt _ c.1
                have ht := tea_in hp e1
                have ht2 : nxp_ tp n p ≤ p' := by
                  rw [tea_eq tp hp] at e1
                  have := (rw_all tp n 7 (by omega)).2 _ _ _ _ _ h1.2 (by omega) e1
                  omega
                injection e2 with e2
                subst e2
                refine ⟨by dsimp only; omega, ht.2.1, nS, nO, nR, nP, nU, ?_⟩
                refine ⟨?_, ?_, ?_, ?_, ?_, hV.S4, hV.O8, hV.R3, hV.P6, hV.U8, ?_, ?_, ?_, ?_, ?_, ?_, ?_, ?_⟩
                · simpa [tq_, du_, am_up] using hV.hS
                · simpa [tq_, du_, am_up] using hV.hO
                · simpa [tq_, du_, am_up] using hV.hR
                · simpa [tq_, du_, am_up] using hV.hP
                · simpa [tq_, du_, am_up] using hV.hU
                · simpa [tq_, du_, am_up] using hV.or
                · simpa [tq_, du_, am_up] using hV.od
                · simpa [tq_, du_, am_up] using hV.pe
                · dsimp only
                  rw [tq_17, tq_20, tq_138, tq_139, tq_f _ _ _ (by decide) (by decide), du_s, am_up_same]
                  exact ⟨fun q => (by cases q), Or.inr rfl, ⟨u, rfl, ht.2.2.1⟩, fun _ => ⟨s, _, _, rfl, ht.2.2.2.2.1, ht.2.2.2.2.2, ht.2.2.2.1, rfl, rfl⟩⟩
                · simpa [tq_, du_, am_up] using hV.op
                · simpa [tq_, du_, am_up] using hV.dr
                · simpa [tq_, du_, am_up] using hV.o1
                · simpa [tq_, du_, am_up] using hV.d1
              · split at h
                · next c =>
                  obtain ⟨a, e1, e2⟩ := sb_in h
                  have := lt _ c.1
                  have ht := tol_in e1 hp
                  have ht2 : p < a.2 := by
                    unfold tol_ at e1
                    rw [if_pos (show tks_ tp n p = 1 ∧ tkw_ tp n p = 1869636974 from c.1)] at e1
                    have := (num_in e1).2.2
                    omega
                  injection e2 with e2
                  subst e2
                  refine ⟨ht2, ht.2.2.2, nS, nO, nR, nP, nU, ?_⟩
                  refine ⟨?_, ?_, ?_, ?_, ?_, hV.S4, hV.O8, hV.R3, hV.P6, hV.U8, ?_, ?_, ?_, ?_, ?_, ?_, ?_, ?_⟩
                  · simpa [du_, am_up] using hV.hS
                  · simpa [du_, am_up] using hV.hO
                  · simpa [du_, am_up] using hV.hR
                  · simpa [du_, am_up] using hV.hP
                  · simpa [du_, am_up] using hV.hU
                  · simpa [du_, am_up] using hV.or
                  · simpa [du_, am_up] using hV.od
                  · simpa [du_, am_up] using hV.pe
                  · simpa [du_, am_up] using hV.tc
                  · dsimp only; rw [du_s, am_up_same]; exact ⟨ht.1, ht.2.1⟩
                  · simpa [du_, am_up] using hV.dr
                  · exact Or.inr (by simp [du_, am_up])
                  · simpa [du_, am_up] using hV.d1
                · split at h
                  · next c =>
                    obtain ⟨a, e1, e2⟩ := sb_in h
                    have := lt _ c.1
                    have ht := tol_in e1 hp
                    have ht2 : p < a.2 := by
                      unfold tol_ at e1
                      rw [if_pos (show tks_ tp n p = 1 ∧ tkw_ tp n p = 1685217655 from c.1)] at e1
                      have := (num_in e1).2.2
                      omega
                    injection e2 with e2
                    subst e2
                    refine ⟨ht2, ht.2.2.2, nS, nO, nR, nP, nU, ?_⟩
                    refine ⟨?_, ?_, ?_, ?_, ?_, hV.S4, hV.O8, hV.R3, hV.P6, hV.U8, ?_, ?_, ?_, ?_, ?_, ?_, ?_, ?_⟩
                    · simpa [du_, am_up] using hV.hS
                    · simpa [du_, am_up] using hV.hO
                    · simpa [du_, am_up] using hV.hR
                    · simpa [du_, am_up] using hV.hP
                    · simpa [du_, am_up] using hV.hU
                    · simpa [du_, am_up] using hV.or
                    · simpa [du_, am_up] using hV.od
                    · simpa [du_, am_up] using hV.pe
                    · simpa [du_, am_up] using hV.tc
                    · simpa [du_, am_up] using hV.op
                    · dsimp only; rw [du_s, am_up_same]; exact ⟨ht.1, ht.2.1⟩
                    · simpa [du_, am_up] using hV.o1
                    · exact Or.inr (by simp [du_, am_up])
                  · cases h
theorem line_in {tp : Nat → Int} {n : Nat} {D : sp_T} {p : Nat} {nS nO nR nP nU : Nat} (hV : DW_ D nS nO nR nP nU) (hp : p ≤ n) {r : sp_T × Nat} (h : line_ tp n D p = Sum.inr r) : p < r.2 ∧ r.2 ≤ n ∧ ∃ mS mO mR mP mU, DW_ r.1 mS mO mR mP mU := by
  unfold line_ at h
  obtain ⟨a, e1, e2⟩ := sb_in h
  obtain ⟨h1, h2, h3⟩ := lin_in hV hp e1
  split at e2
  · injection e2 with e2
    rw [← e2]
    have := nxp_le (tp := tp) h2
    exact ⟨by dsimp only; omega, this.2, h3⟩
  · cases e2
