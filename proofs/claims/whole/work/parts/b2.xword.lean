theorem am_lsh_lor {x c s : Nat} (hs : s ≤ 8) (hx : x * 2 ^ s + c < 2 ^ 63) (hc : c < 2 ^ s) : am_lor (am_lshl (x : Int) (s : Int)) (c : Int) = ((x * 2 ^ s + c : Nat) : Int) := by
  unfold am_lor am_lshl
  rw [Int64.ofInt_toInt]
  have e : (((Int32.ofInt (s : Int)).toInt64 &&& 63).toBitVec.smod 64).toNat = s := by
    have : ∀ k : Nat, k ≤ 8 → (((Int32.ofInt (k : Int)).toInt64 &&& 63).toBitVec.smod 64).toNat = k := by decide +kernel
    exact this s hs
  have h2 : (Int64.ofInt (x : Int) <<< ((Int32.ofInt (s : Int)).toInt64 &&& 63) ||| Int64.ofInt (c : Int)).toBitVec.toNat = x * 2 ^ s + c := by
    rw [Int64.toBitVec_or, Int64.toBitVec_shiftLeft, Int64.toBitVec_ofInt, Int64.toBitVec_ofInt, BitVec.toNat_or, BitVec.shiftLeft_eq', e, BitVec.toNat_shiftLeft, BitVec.ofInt_natCast, BitVec.ofInt_natCast, BitVec.toNat_ofNat, BitVec.toNat_ofNat]
    have hp : 1 ≤ 2 ^ s := Nat.one_le_two_pow
    have hx0 : x ≤ x * 2 ^ s := Nat.le_mul_of_pos_right x hp
    rw [Nat.mod_eq_of_lt (show x < 2 ^ 64 by omega), Nat.mod_eq_of_lt (show c < 2 ^ 64 by omega), Nat.shiftLeft_eq, Nat.mod_eq_of_lt (show x * 2 ^ s < 2 ^ 64 by omega)]
    have := Nat.shiftLeft_add_eq_or_of_lt hc x
    rw [Nat.shiftLeft_eq] at this
    exact this.symm
  show (Int64.ofInt (x : Int) <<< ((Int32.ofInt (s : Int)).toInt64 &&& 63) ||| Int64.ofInt (c : Int)).toBitVec.toInt = _
  rw [BitVec.toInt_eq_toNat_cond, h2, if_pos (by omega)]
/-- a word's letters in eight bits each, and in five -/
def p8_ (c : Nat → Nat) : Nat → Nat
  | 0 => 0
  | l + 1 => p8_ c l * 256 + (96 + c l)
def p5_ (c : Nat → Nat) : Nat → Nat
  | 0 => 0
  | l + 1 => p5_ c l * 32 + c l
def c85_ : Nat → Nat → Nat
  | 0, _ => 0
  | k + 1, w => if w = 0 then 0 else c85_ k (w / 256) * 32 + (w % 256 - 96)
def c58_ : Nat → Nat → Nat
  | 0, _ => 0
  | k + 1, w => if w = 0 then 0 else c58_ k (w / 32) * 256 + (96 + w % 32)
theorem c85_p {c : Nat → Nat} : ∀ k l, l ≤ k → (∀ i, i < l → 1 ≤ c i ∧ c i ≤ 26) → c85_ k (p8_ c l) = p5_ c l
  | 0, 0, _, _ => rfl
  | k + 1, 0, _, _ => if_pos rfl
  | k + 1, l + 1, h, hc => by
    have h1 := hc l (by omega)
    have ih := c85_p k l (by omega) (fun i hi => hc i (by omega))
    show (if p8_ c l * 256 + (96 + c l) = 0 then 0 else c85_ k ((p8_ c l * 256 + (96 + c l)) / 256) * 32 + ((p8_ c l * 256 + (96 + c l)) % 256 - 96)) = p5_ c l * 32 + c l
    rw [if_neg (by omega), show (p8_ c l * 256 + (96 + c l)) / 256 = p8_ c l by omega, ih]
    omega
theorem c58_p {c : Nat → Nat} : ∀ k l, l ≤ k → (∀ i, i < l → 1 ≤ c i ∧ c i ≤ 26) → c58_ k (p5_ c l) = p8_ c l
  | 0, 0, _, _ => rfl
  | k + 1, 0, _, _ => if_pos rfl
  | k + 1, l + 1, h, hc => by
    have h1 := hc l (by omega)
    have ih := c58_p k l (by omega) (fun i hi => hc i (by omega))
    show (if p5_ c l * 32 + c l = 0 then 0 else c58_ k ((p5_ c l * 32 + c l) / 32) * 256 + (96 + (p5_ c l * 32 + c l) % 32)) = p8_ c l * 256 + (96 + c l)
    rw [if_neg (by omega), show (p5_ c l * 32 + c l) / 32 = p5_ c l by omega, ih]
    omega
/-- a word of one to eight letters, as the reference keeps it -/
def WK_ (w : Int) : Prop := ∃ (c : Nat → Nat) (l : Nat), l ≤ 8 ∧ (∀ i, i < l → 1 ≤ c i ∧ c i ≤ 26) ∧ w = (p8_ c l : Int)
/-- as the class keeps it -/
def n5_ (w : Int) : Int := (c85_ 8 w.toNat : Int)
theorem n5_inj {w w' : Int} (h : WK_ w) (h' : WK_ w') : n5_ w = n5_ w' ↔ w = w' := by
  obtain ⟨c, l, h1, h2, rfl⟩ := h
  obtain ⟨c', l', h1', h2', rfl⟩ := h'
  constructor
  · intro e
    unfold n5_ at e
    rw [Int.toNat_natCast, Int.toNat_natCast, c85_p 8 l h1 h2, c85_p 8 l' h1' h2'] at e
    have e2 : p5_ c l = p5_ c' l' := by omega
    have := congrArg (c58_ 8) e2
    rw [c58_p 8 l h1 h2, c58_p 8 l' h1' h2'] at this
    rw [this]
  · intro e; rw [e]
theorem p5_bd {c : Nat → Nat} : ∀ l, (∀ i, i < l → 1 ≤ c i ∧ c i ≤ 26) → p5_ c l < 2 ^ (5 * l)
  | 0, _ => (by decide : (0 : Nat) < 2 ^ (5 * 0))
  | l + 1, h => by
    have h1 := h l (by omega)
    have ih := p5_bd l (fun i hi => h i (by omega))
    show p5_ c l * 32 + c l < 2 ^ (5 * (l + 1))
    rw [show 5 * (l + 1) = 5 * l + 5 by omega, Nat.pow_add]
    omega
theorem p8_bd {c : Nat → Nat} : ∀ l, (∀ i, i < l → 1 ≤ c i ∧ c i ≤ 26) → p8_ c l < 2 ^ (7 + 8 * (l - 1))
  | 0, _ => (by decide : (0 : Nat) < 2 ^ (7 + 8 * (0 - 1)))
  | 1, h => by have := h 0 (by omega); show 0 * 256 + (96 + c 0) < 2 ^ 7; omega
  | l + 2, h => by
    have h1 := h (l + 1) (by omega)
    have ih := p8_bd (l + 1) (fun i hi => h i (by omega))
    show p8_ c (l + 1) * 256 + (96 + c (l + 1)) < 2 ^ (7 + 8 * (l + 2 - 1))
    rw [show 7 + 8 * (l + 2 - 1) = 7 + 8 * (l + 1 - 1) + 8 by omega, Nat.pow_add]
    omega
/-- the letters from a place on -/
def lc8_ (tp : Nat → Int) (n p i : Nat) : Nat := (hr_ tp n (p + i)).toNat - 96
theorem lc_ok {tp : Nat → Int} {n p i : Nat} (h : lt_ (hr_ tp n (p + i)) = true) : 1 ≤ lc8_ tp n p i ∧ lc8_ tp n p i ≤ 26 ∧ hr_ tp n (p + i) = ((96 + lc8_ tp n p i : Nat) : Int) := by
  unfold lt_ at h
  rw [decide_eq_true_eq] at h
  unfold lc8_
  omega
theorem wdv_p8 {tp : Nat → Int} {n p : Nat} : ∀ l, l ≤ 8 → (∀ i, i < l → lt_ (hr_ tp n (p + i)) = true) → wdv_ tp n p l = (p8_ (lc8_ tp n p) l : Int)
  | 0, _, _ => rfl
  | l + 1, hl, h => by
    have ih := wdv_p8 l (by omega) (fun i hi => h i (by omega))
    have hc := lc_ok (h l (by omega))
    have hb := p8_bd (c := lc8_ tp n p) (l + 1) (fun i hi => ⟨(lc_ok (h i (by omega))).1, (lc_ok (h i (by omega))).2.1⟩)
    have hm : 2 ^ (7 + 8 * (l + 1 - 1)) ≤ 2 ^ 63 := Nat.pow_le_pow_right (by decide) (by omega)
    show (if l < 8 then am_lor (am_lshl (wdv_ tp n p l) 8) (hr_ tp n (p + l)) else wdv_ tp n p l) = _
    rw [if_pos (by omega), ih, hc.2.2]
    exact am_lsh_lor (s := 8) (by decide) (Nat.lt_of_lt_of_le hb hm) (show 96 + lc8_ tp n p l < 2 ^ 8 by omega)
/-- what the class's name is behind l letters -/
def bw_ (tp : Nat → Int) (n p : Nat) : Nat → Int
  | 0 => 0
  | l + 1 => am_lor (am_lshl (bw_ tp n p l) 5) (am_w (am_w (hr_ tp n (p + l) - 97) + 1))
theorem bw_p5 {tp : Nat → Int} {n p : Nat} : ∀ l, l ≤ 8 → (∀ i, i < l → lt_ (hr_ tp n (p + i)) = true) → bw_ tp n p l = (p5_ (lc8_ tp n p) l : Int)
  | 0, _, _ => rfl
  | l + 1, hl, h => by
    have ih := bw_p5 l (by omega) (fun i hi => h i (by omega))
    have hc := lc_ok (h l (by omega))
    have hb := p5_bd (c := lc8_ tp n p) (l + 1) (fun i hi => ⟨(lc_ok (h i (by omega))).1, (lc_ok (h i (by omega))).2.1⟩)
    have hm : 2 ^ (5 * (l + 1)) ≤ 2 ^ 63 := Nat.pow_le_pow_right (by decide) (by omega)
    show am_lor (am_lshl (bw_ tp n p l) 5) (am_w (am_w (hr_ tp n (p + l) - 97) + 1)) = _
    rw [ih, hc.2.2, am_we (z := ((96 + lc8_ tp n p l : Nat) : Int) - 97) rfl (by omega) (by omega), am_we (z := ((lc8_ tp n p l : Nat) : Int)) (by omega) (by omega) (by omega)]
    exact am_lsh_lor (s := 5) (by decide) (Nat.lt_of_lt_of_le hb hm) (show lc8_ tp n p l < 2 ^ 5 by omega)
theorem bw_n5 {tp : Nat → Int} {n p l : Nat} (hl : l ≤ 8) (h : ∀ i, i < l → lt_ (hr_ tp n (p + i)) = true) : bw_ tp n p l = n5_ (wdv_ tp n p l) ∧ WK_ (wdv_ tp n p l) := by
  have hc : ∀ i, i < l → 1 ≤ lc8_ tp n p i ∧ lc8_ tp n p i ≤ 26 := fun i hi => ⟨(lc_ok (h i hi)).1, (lc_ok (h i hi)).2.1⟩
  rw [bw_p5 l hl h, wdv_p8 l hl h]
  refine ⟨?_, _, l, hl, hc, rfl⟩
  unfold n5_
  rw [Int.toNat_natCast, c85_p 8 l hl hc]

