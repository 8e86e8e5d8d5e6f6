/-! laws for use, of the abstract machine's steps: places as naturals, values by their names -/
theorem am_we {a z : Int} (h : a = z) (h1 : -2147483648 ≤ z) (h2 : z ≤ 2147483647) : am_w a = z := by
  rw [h]
  exact am_t32 ⟨h1, h2⟩
theorem am_wi {z : Int} (h1 : -2147483648 ≤ z) (h2 : z ≤ 2147483647) : am_w z = z := am_t32 ⟨h1, h2⟩
section BX
variable {d rk : Nat} {c : List am_O} {Q : Option am_V → am_S → Prop} {pc q : Nat} {L : List (Option am_V)} {S : List am_V} {σ : am_S} {i : Instr} {n x : Nat}
theorem bx_iald (h : am_lk c pc = some (.iaload, 1, x)) (hq : pc + 1 = q) {a m k : Nat} {j z : Int} (h2 : am_kd a = (0, m)) (hj : j = (k : Int)) (hk : k < m) (hv : σ.1 a k = z) (kk : aW d rk c Q q L (am_I z :: S) σ) : aW d rk c Q pc L (am_I j :: am_R a :: S) σ := by
  subst hj; subst hv
  exact ax_iald h hq h2 (Int.natCast_nonneg k) (Int.ofNat_lt.mpr hk) kk
theorem bx_bald (h : am_lk c pc = some (.baload, 1, x)) (hq : pc + 1 = q) {a m k : Nat} {j z : Int} (h2 : am_kd a = (1, m) ∨ am_kd a = (2, m)) (hj : j = (k : Int)) (hk : k < m) (hv : σ.1 a k = z) (kk : aW d rk c Q q L (am_I z :: S) σ) : aW d rk c Q pc L (am_I j :: am_R a :: S) σ := by
  subst hj; subst hv
  exact ax_bald h hq h2 (Int.natCast_nonneg k) (Int.ofNat_lt.mpr hk) kk
theorem bx_lald (h : am_lk c pc = some (.laload, 1, x)) (hq : pc + 1 = q) {a m k : Nat} {j z : Int} (h2 : am_kd a = (3, m)) (hj : j = (k : Int)) (hk : k < m) (hv : σ.2.1 a k = z) (kk : aW d rk c Q q L (am_J z :: S) σ) : aW d rk c Q pc L (am_I j :: am_R a :: S) σ := by
  subst hj; subst hv
  exact ax_lald h hq h2 (Int.natCast_nonneg k) (Int.ofNat_lt.mpr hk) kk
theorem bx_aald (h : am_lk c pc = some (.aaload, 1, x)) (hq : pc + 1 = q) {a m k z : Nat} {j : Int} (h2 : am_kd a = (4, m) ∨ am_kd a = (5, m)) (hj : j = (k : Int)) (hk : k < m) (hv : a + 1 + k = z) (kk : aW d rk c Q q L (am_R z :: S) σ) : aW d rk c Q pc L (am_I j :: am_R a :: S) σ := by
  subst hj; subst hv
  exact ax_aald h hq h2 (Int.natCast_nonneg k) (Int.ofNat_lt.mpr hk) kk
theorem bx_iast (h : am_lk c pc = some (.iastore, 1, x)) (hq : pc + 1 = q) {a m k : Nat} {j z : Int} (h2 : am_kd a = (0, m)) (hj : j = (k : Int)) (hk : k < m) (kk : aW d rk c Q q L S (am_sI σ a (am_up (σ.1 a) k z))) : aW d rk c Q pc L (am_I z :: am_I j :: am_R a :: S) σ := by
  subst hj
  exact ax_iast h hq h2 (Int.natCast_nonneg k) (Int.ofNat_lt.mpr hk) kk
theorem bx_bast (h : am_lk c pc = some (.bastore, 1, x)) (hq : pc + 1 = q) {a m k : Nat} {j z : Int} (h2 : am_kd a = (1, m)) (hj : j = (k : Int)) (hk : k < m) (kk : aW d rk c Q q L S (am_sI σ a (am_up (σ.1 a) k (am_w8 z)))) : aW d rk c Q pc L (am_I z :: am_I j :: am_R a :: S) σ := by
  subst hj
  exact ax_bast h hq h2 (Int.natCast_nonneg k) (Int.ofNat_lt.mpr hk) kk
theorem bx_zast (h : am_lk c pc = some (.bastore, 1, x)) (hq : pc + 1 = q) {a m k : Nat} {j z : Int} (h2 : am_kd a = (2, m)) (hj : j = (k : Int)) (hk : k < m) (hz : z = 0 ∨ z = 1) (kk : aW d rk c Q q L S (am_sI σ a (am_up (σ.1 a) k z))) : aW d rk c Q pc L (am_I z :: am_I j :: am_R a :: S) σ := by
  subst hj
  exact ax_zast h hq h2 (Int.natCast_nonneg k) (Int.ofNat_lt.mpr hk) hz kk
theorem bx_last (h : am_lk c pc = some (.lastore, 1, x)) (hq : pc + 1 = q) {a m k : Nat} {j z : Int} (h2 : am_kd a = (3, m)) (hj : j = (k : Int)) (hk : k < m) (kk : aW d rk c Q q L S (am_sL σ a (am_up (σ.2.1 a) k z))) : aW d rk c Q pc L (am_J z :: am_I j :: am_R a :: S) σ := by
  subst hj
  exact ax_last h hq h2 (Int.natCast_nonneg k) (Int.ofNat_lt.mpr hk) kk
theorem bx_sld (h : am_lk c pc = some (.iaload, 1, x)) (hq : pc + 1 = q) {k : Nat} {j z : Int} (hj : j = (k : Int)) (hk : k < σ.2.2.2.2) (hv : σ.2.2.2.1 k = z) (kk : aW d rk c Q q L (am_I z :: S) σ) : aW d rk c Q pc L (am_I j :: am_R 900 :: S) σ := by
  subst hj; subst hv
  exact ax_sld h hq (Int.natCast_nonneg k) (Int.ofNat_lt.mpr hk) kk
theorem bx_tld (h : am_lk c pc = some (.iaload, 1, x)) (hq : pc + 1 = q) {k : Nat} {j z : Int} (hj : j = (k : Int)) (hk : k < 5) (hv : am_sta k = z) (kk : aW d rk c Q q L (am_I z :: S) σ) : aW d rk c Q pc L (am_I j :: am_R 901 :: S) σ := by
  subst hj; subst hv
  exact ax_tld h hq (Int.natCast_nonneg k) (by omega) kk
theorem am_fg {a x : Nat} {y z : Int} (h0 : am_fget σ a x = some (am_I y)) (h : y = z) : am_fget σ a x = some (am_I z) := by rw [h0, h]
theorem am_fgJ {a x : Nat} {y z : Int} (h0 : am_fget σ a x = some (am_J y)) (h : y = z) : am_fget σ a x = some (am_J z) := by rw [h0, h]
theorem am_fgR {a x : Nat} {y z : Option Nat} (h0 : am_fget σ a x = some (am_q y)) (h : y = z) : am_fget σ a x = some (am_q z) := by rw [h0, h]
/-- a loop that counts up: what each round makes of the rest is f -/
theorem lp_up {α : Type} (W : Nat → α → Prop) (I : Nat → α → Prop) (f : Nat → α → α) (n : Nat) (hI : ∀ k x, k < n → I k x → I (k + 1) (f k x)) (hs : ∀ k x, k < n → I k x → W (k + 1) (f k x) → W k x) : ∀ (m k : Nat) (x : α), k + m = n → I k x → (∀ y, I n y → W n y) → W k x
  | 0, k, x, h, hx, he => by
    have : k = n := by omega
    subst this
    exact he x hx
  | m + 1, k, x, h, hx, he => hs k x (by omega) hx (lp_up W I f n hI hs m (k + 1) (f k x) (by omega) (hI k x (by omega) hx) he)
end BX
/-! frames -/
def fr_ (l : List Nat) (σ σ' : am_S) : Prop := (∀ a, a ∉ l → σ'.1 a = σ.1 a) ∧ σ'.2 = σ.2
theorem fr_rf (l : List Nat) (σ : am_S) : fr_ l σ σ := ⟨fun _ _ => rfl, rfl⟩
theorem fr_sI {l : List Nat} {σ σ' : am_S} {a : Nat} {f : Nat → Int} (h : fr_ l σ σ') (ha : a ∈ l) : fr_ l σ (am_sI σ' a f) := ⟨fun b hb => by
  have e : (am_sI σ' a f).1 b = σ'.1 b := am_up_ne (fun q => hb (by rw [q]; exact ha))
  rw [e]
  exact h.1 b hb, h.2⟩
theorem fr_tr {l l' : List Nat} {σ σ1 σ2 : am_S} (h1 : fr_ l σ σ1) (h2 : fr_ l' σ1 σ2) (hl : ∀ a, a ∈ l' → a ∈ l) : fr_ l σ σ2 := ⟨fun b hb => by rw [h2.1 b (fun q => hb (hl b q)), h1.1 b hb], by rw [h2.2, h1.2]⟩
theorem fr_sub {l l' : List Nat} {σ σ1 : am_S} (h1 : fr_ l σ σ1) (hl : ∀ a, a ∈ l → a ∈ l') : fr_ l' σ σ1 := ⟨fun b hb => h1.1 b (fun q => hb (hl b q)), h1.2⟩
theorem fr_at {l : List Nat} {σ σ' : am_S} (h : fr_ l σ σ') {a : Nat} (ha : a ∉ l) : σ'.1 a = σ.1 a := h.1 a ha
/-! sums, bits, counts over places -/
def su_ : Nat → (Nat → Int) → Int
  | 0, _ => 0
  | n + 1, f => su_ n f + f n
def bi_ : Nat → (Nat → Bool) → Nat
  | 0, _ => 0
  | n + 1, p => bi_ n p + (if p n then 2 ^ n else 0)
def ct_ : Nat → (Nat → Bool) → Nat
  | 0, _ => 0
  | n + 1, p => ct_ n p + (if p n then 1 else 0)
theorem su_bd {f : Nat → Int} {b : Int} (hb : 0 ≤ b) : ∀ n, (∀ k, k < n → 0 ≤ f k ∧ f k ≤ b) → 0 ≤ su_ n f ∧ su_ n f ≤ n * b
  | 0, _ => ⟨Int.le_refl _, by simp [su_]⟩
  | n + 1, h => by
    obtain ⟨h1, h2⟩ := su_bd hb n (fun k hk => h k (by omega))
    obtain ⟨h3, h4⟩ := h n (by omega)
    have e : ((n + 1 : Nat) : Int) * b = n * b + b := by rw [Int.natCast_add, Int.add_mul]; simp
    rw [e]
    show 0 ≤ su_ n f + f n ∧ su_ n f + f n ≤ _
    omega
theorem su_eq {f g : Nat → Int} : ∀ n, (∀ k, k < n → f k = g k) → su_ n f = su_ n g
  | 0, _ => rfl
  | n + 1, h => by
    show su_ n f + f n = su_ n g + g n
    rw [su_eq n (fun k hk => h k (by omega)), h n (by omega)]
theorem bi_lt (p : Nat → Bool) : ∀ n, bi_ n p < 2 ^ n
  | 0 => Nat.one_pos
  | n + 1 => by
    have h := bi_lt p n
    show bi_ n p + (if p n then 2 ^ n else 0) < 2 ^ (n + 1)
    rw [Nat.pow_succ]
    split <;> omega
theorem bi_eq {p q : Nat → Bool} : ∀ n, (∀ k, k < n → p k = q k) → bi_ n p = bi_ n q
  | 0, _ => rfl
  | n + 1, h => by
    show bi_ n p + _ = bi_ n q + _
    rw [bi_eq n (fun k hk => h k (by omega)), h n (by omega)]
theorem bi_tb (p : Nat → Bool) : ∀ n k, (bi_ n p).testBit k = (decide (k < n) && p k)
  | 0, k => by simp [bi_]
  | n + 1, k => by
    have ih := bi_tb p n k
    have hl := bi_lt p n
    show (bi_ n p + (if p n then 2 ^ n else 0)).testBit k = _
    by_cases hp : p n = true
    · rw [if_pos hp, Nat.add_comm, ← Nat.mul_one (2 ^ n), Nat.two_pow_add_eq_or_of_lt hl, Nat.testBit_or, ih, Nat.mul_one, Nat.testBit_two_pow]
      by_cases h1 : k = n
      · subst h1; simp [hp]
      · by_cases h2 : k < n
        · simp [h2, show k < n + 1 by omega, show ¬ n = k by omega]
        · simp [h2, show ¬ k < n + 1 by omega, show ¬ n = k by omega]
    · rw [if_neg hp, Nat.add_zero, ih]
      have hp : p n = false := by simpa using hp
      by_cases h1 : k = n
      · subst h1; simp [hp]
      · by_cases h2 : k < n
        · simp [h2, show k < n + 1 by omega]
        · simp [h2, show ¬ k < n + 1 by omega]
theorem ct_le (p : Nat → Bool) : ∀ n, ct_ n p ≤ n
  | 0 => Nat.le_refl _
  | n + 1 => by
    have h := ct_le p n
    show ct_ n p + _ ≤ n + 1
    split <;> omega
theorem ct_eq {p q : Nat → Bool} : ∀ n, (∀ k, k < n → p k = q k) → ct_ n p = ct_ n q
  | 0, _ => rfl
  | n + 1, h => by
    show ct_ n p + _ = ct_ n q + _
    rw [ct_eq n (fun k hk => h k (by omega)), h n (by omega)]
/-! bits of the machine's ints that are small naturals -/
theorem nat32 {n : Nat} (h : n < 2 ^ 31) : am_r32 (n : Int) := ⟨by omega, by omega⟩
theorem of_nat32 (n : Nat) : Int32.ofInt (n : Int) = nI n := by
  unfold nI
  exact (Int32.ofInt_eq_ofNat).symm ▸ rfl
theorem am_or_nat {a b : Nat} (ha : a < 2 ^ 31) (hb : b < 2 ^ 31) : am_or a b = ((a ||| b : Nat) : Int) := by
  unfold am_or
  have h : a ||| b < 2 ^ 31 := Nat.or_lt_two_pow ha hb
  rw [show Int32.ofInt (a : Int) ||| Int32.ofInt (b : Int) = Int32.ofInt ((a ||| b : Nat) : Int) by
    apply Int32.toBitVec_inj.mp
    rw [Int32.toBitVec_or]
    apply BitVec.eq_of_toNat_eq
    rw [BitVec.toNat_or, Int32.toBitVec_ofInt, Int32.toBitVec_ofInt, Int32.toBitVec_ofInt]
    simp only [BitVec.ofInt_natCast, BitVec.toNat_ofNat]
    rw [Nat.mod_eq_of_lt (by omega), Nat.mod_eq_of_lt (by omega), Nat.mod_eq_of_lt (by omega)]]
  exact am_t32 (nat32 h)
theorem am_and_nat {a b : Nat} (ha : a < 2 ^ 31) (hb : b < 2 ^ 31) : am_and a b = ((a &&& b : Nat) : Int) := by
  unfold am_and
  have h : a &&& b < 2 ^ 31 := Nat.lt_of_le_of_lt Nat.and_le_left ha
  rw [show Int32.ofInt (a : Int) &&& Int32.ofInt (b : Int) = Int32.ofInt ((a &&& b : Nat) : Int) by
    apply Int32.toBitVec_inj.mp
    rw [Int32.toBitVec_and]
    apply BitVec.eq_of_toNat_eq
    rw [BitVec.toNat_and, Int32.toBitVec_ofInt, Int32.toBitVec_ofInt, Int32.toBitVec_ofInt]
    simp only [BitVec.ofInt_natCast, BitVec.toNat_ofNat]
    rw [Nat.mod_eq_of_lt (by omega), Nat.mod_eq_of_lt (by omega), Nat.mod_eq_of_lt (by omega)]]
  exact am_t32 (nat32 h)
theorem am_shl1 : ∀ k : Nat, k < 31 → am_shl 1 (k : Int) = ((2 ^ k : Nat) : Int) := by decide +kernel
theorem am_shl0 : ∀ k : Nat, k < 31 → am_shl 0 (k : Int) = 0 := by decide +kernel
theorem or_bit {a k : Nat} (h : a < 2 ^ k) : a ||| 2 ^ k = a + 2 ^ k := by
  have := Nat.two_pow_add_eq_or_of_lt h 1
  rw [Nat.mul_one] at this
  rw [Nat.or_comm, ← this, Nat.add_comm]
theorem am_or_bit {a k : Nat} (h : a < 2 ^ k) (hk : k < 30) : am_or (a : Int) ((2 ^ k : Nat) : Int) = ((a + 2 ^ k : Nat) : Int) := by
  have h1 : 2 ^ k < 2 ^ 31 := Nat.pow_lt_pow_right (by decide) (by omega)
  rw [am_or_nat (by omega) h1, or_bit h]
theorem am_or_0 {a : Nat} (h : a < 2 ^ 31) : am_or (a : Int) 0 = (a : Int) := by
  have := am_or_nat (a := a) (b := 0) h (by decide)
  simpa using this
/-- the bits told so far, and one more -/
theorem am_or_bi {n : Nat} (p : Nat → Bool) (hn : n < 30) : am_or (bi_ n p : Int) (am_shl (if p n then 1 else 0) (n : Int)) = (bi_ (n + 1) p : Int) := by
  have h := bi_lt p n
  have h1 : 2 ^ n < 2 ^ 31 := Nat.pow_lt_pow_right (by decide) (by omega)
  show _ = ((bi_ n p + (if p n then 2 ^ n else 0) : Nat) : Int)
  split
  · rw [am_shl1 n (by omega), am_or_bit h hn]
  · rw [am_shl0 n (by omega), am_or_0 (by omega)]
    rfl
theorem am_shr_nat {a k : Nat} (ha : a < 2 ^ 31) (hk : k < 31) : am_shr (a : Int) (k : Int) = ((a / 2 ^ k : Nat) : Int) := by
  unfold am_shr
  have e : (((Int32.ofInt (k : Int)) &&& 31).toBitVec.smod 32).toNat = k := by
    have : ∀ k : Nat, k < 31 → (((Int32.ofInt (k : Int)) &&& 31).toBitVec.smod 32).toNat = k := by decide +kernel
    exact this k hk
  rw [pk_shr _ _ k e, am_t32 (nat32 ha), Int.shiftRight_eq_div_pow]
  exact_mod_cast rfl
/-- (a >> k & 1) is the bit -/
theorem am_bit {a k : Nat} (ha : a < 2 ^ 31) (hk : k < 31) : am_and (am_shr (a : Int) (k : Int)) 1 = (if a.testBit k then 1 else 0) := by
  have h2 : a / 2 ^ k < 2 ^ 31 := Nat.lt_of_le_of_lt (Nat.div_le_self _ _) ha
  have := am_and_nat (a := a / 2 ^ k) (b := 1) h2 (by decide)
  rw [am_shr_nat ha hk, show (1 : Int) = ((1 : Nat) : Int) from rfl, this, Nat.and_one_is_mod]
  rw [Nat.testBit_eq_decide_div_mod_eq]
  by_cases h : a / 2 ^ k % 2 = 1
  · simp [h]
  · have : a / 2 ^ k % 2 = 0 := by omega
    simp [this]
theorem and_2k (a k : Nat) : a &&& 2 ^ k = if a.testBit k then 2 ^ k else 0 := by
  apply Nat.eq_of_testBit_eq
  intro i
  rw [Nat.testBit_and, Nat.testBit_two_pow]
  by_cases h : k = i
  · subst h
    cases hb : a.testBit k <;> simp [Nat.testBit_two_pow]
  · simp only [h, decide_false, Bool.and_false]
    split <;> simp [Nat.testBit_two_pow, h]
/-- (a & 1 << k) != 0 is the bit -/
theorem am_andbit {a k : Nat} (ha : a < 2 ^ 31) (hk : k < 31) : am_and (a : Int) (am_shl 1 (k : Int)) = (if a.testBit k then ((2 ^ k : Nat) : Int) else 0) := by
  have h1 : 2 ^ k < 2 ^ 31 := Nat.pow_lt_pow_right (by decide) (by omega)
  rw [am_shl1 k hk, am_and_nat ha h1, and_2k]
  cases a.testBit k <;> simp
