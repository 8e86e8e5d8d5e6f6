/-! THE ABSTRACT MACHINE: ints are whole numbers, references are small numbers (a cell's place in the world), the cells' shapes are fixed (am_kd). am_W: the least relation kept by the rules; each rule is one instruction. -/
abbrev am_V : Type := Int ⊕ (Int ⊕ Option Nat)
abbrev am_I (z : Int) : am_V := Sum.inl z
abbrev am_J (z : Int) : am_V := Sum.inr (Sum.inl z)
abbrev am_R (a : Nat) : am_V := Sum.inr (Sum.inr (some a))
abbrev am_q (r : Option Nat) : am_V := Sum.inr (Sum.inr r)
abbrev am_O : Type := Nat × Instr × Nat × Nat
abbrev am_S : Type := (Nat → Nat → Int) × (Nat → Nat → Int) × (Nat → Nat → Option Nat) × (Nat → Int) × Nat
def am_r32 (z : Int) : Prop := -2147483648 ≤ z ∧ z ≤ 2147483647
def am_r64 (z : Int) : Prop := -9223372036854775808 ≤ z ∧ z ≤ 9223372036854775807
def am_ok : am_V → Prop
  | .inl z => am_r32 z
  | .inr (.inl z) => am_r64 z
  | .inr (.inr _) => True
def am_ty : am_V → Nat
  | .inl _ => 0
  | .inr (.inl _) => 1
  | .inr (.inr _) => 2
def am_cat : am_V → Nat
  | .inr (.inl _) => 2
  | _ => 1
def am_tr (ad : Nat → Nat) : am_V → Value
  | .inl z => .int (Int32.ofInt z)
  | .inr (.inl z) => .long (Int64.ofInt z)
  | .inr (.inr none) => .null
  | .inr (.inr (some a)) => .ref (ad a)
def am_up {α : Type} (f : Nat → α) (k : Nat) (v : α) : Nat → α := fun j => if j = k then v else f j
def am_sI (σ : am_S) (a : Nat) (f : Nat → Int) : am_S := (am_up σ.1 a f, σ.2)
def am_sL (σ : am_S) (a : Nat) (f : Nat → Int) : am_S := (σ.1, am_up σ.2.1 a f, σ.2.2)
def am_sR (σ : am_S) (a : Nat) (f : Nat → Option Nat) : am_S := (σ.1, σ.2.1, am_up σ.2.2.1 a f, σ.2.2.2)
def am_w (z : Int) : Int := (Int32.ofInt z).toInt
def am_w8 (z : Int) : Int := ((Int32.ofInt z).toInt8.toInt32).toInt
def am_and (a b : Int) : Int := (Int32.ofInt a &&& Int32.ofInt b).toInt
def am_or (a b : Int) : Int := (Int32.ofInt a ||| Int32.ofInt b).toInt
def am_xor (a b : Int) : Int := (Int32.ofInt a ^^^ Int32.ofInt b).toInt
def am_shl (a b : Int) : Int := (Int32.ofInt a <<< (Int32.ofInt b &&& 31)).toInt
def am_shr (a b : Int) : Int := (Int32.ofInt a >>> (Int32.ofInt b &&& 31)).toInt
def am_ushr (a b : Int) : Int := (((Int32.ofInt a).toUInt32 >>> ((Int32.ofInt b).toUInt32 &&& Int32.toUInt32 31)).toInt32).toInt
def am_div (a b : Int) : Int := (Int32.ofInt a / Int32.ofInt b).toInt
def am_rem (a b : Int) : Int := (Int32.ofInt a - Int32.ofInt a / Int32.ofInt b * Int32.ofInt b).toInt
def am_lor (a b : Int) : Int := (Int64.ofInt a ||| Int64.ofInt b).toInt
def am_lshl (a b : Int) : Int := (Int64.ofInt a <<< ((Int32.ofInt b).toInt64 &&& 63)).toInt
def am_lcmp (a b : Int) : Int := if a < b then -1 else if a = b then 0 else 1
def am_i2b (a : Int) : Int := (Int32.ofInt a).toInt8.toInt32.toInt
def am_i2c (a : Int) : Int := ((Int32.ofInt a).toUInt32 % 65536).toInt32.toInt
def am_bop : Instr → Option (Int → Int → Int)
  | .iadd => some (fun a b => am_w (a + b))
  | .isub => some (fun a b => am_w (a - b))
  | .imul => some (fun a b => am_w (a * b))
  | .iand => some am_and
  | .ior => some am_or
  | .ixor => some am_xor
  | .ishl => some am_shl
  | .ishr => some am_shr
  | .iushr => some am_ushr
  | _ => none
def am_cnd : ClassFile.Cond → Int → Int → Prop
  | .eq, a, b => a = b
  | .ne, a, b => ¬ a = b
  | .lt, a, b => a < b
  | .ge, a, b => b ≤ a
  | .gt, a, b => b < a
  | .le, a, b => a ≤ b
def am_lk : List am_O → Nat → Option (Instr × Nat × Nat)
  | [], _ => none
  | e :: r, pc => match Nat.beq e.1 pc with
    | true => some e.2
    | false => am_lk r pc
def am_in (lo hi n : Int) : Bool := decide (lo ≤ n) && decide (n ≤ hi)
/-- an instruction that pushes a constant -/
def am_kst : Instr → Nat → Option am_V
  | .iconst n, _ => match am_in (-1) 5 n with | true => some (am_I n) | false => none
  | .bipush n, _ => match am_in (-128) 127 n with | true => some (am_I n) | false => none
  | .sipush n, _ => match am_in (-32768) 32767 n with | true => some (am_I n) | false => none
  | .lconst n, _ => some (am_J (n : Nat))
  | .ldc _, x => match Nat.ble x 2147483647 with | true => some (am_I x) | false => none
  | .ldc_w _, x => match Nat.ble x 2147483647 with | true => some (am_I x) | false => none
  | .ldc2_w _, x => match Nat.ble x 9223372036854775807 with | true => some (am_J x) | false => none
  | _, _ => none
/-- which local an instruction loads, of which kind -/
def am_ldk : Instr → Option (Nat × Nat)
  | .iload_n k => some (k, 0)
  | .iload k => some (k, 0)
  | .lload_n k => some (k, 1)
  | .lload k => some (k, 1)
  | .aload_n k => some (k, 2)
  | .aload k => some (k, 2)
  | _ => none
def am_stk : Instr → Option (Nat × Nat)
  | .istore_n k => some (k, 0)
  | .istore k => some (k, 0)
  | .astore_n k => some (k, 2)
  | .astore k => some (k, 2)
  | _ => none
def am_nolong (L : List (Option am_V)) : Nat → Bool
  | 0 => true
  | k + 1 => match L[k]? with
    | some (some (.inr (.inl _))) => false
    | _ => true
def am_stOK (L : List (Option am_V)) (k : Nat) : Bool := Nat.blt k L.length && am_nolong L k
def am_fval (σ : am_S) (a ci k : Nat) : am_V := match am_fty ci k with
  | 0 => am_I (σ.1 a k)
  | 1 => am_J (σ.2.1 a k)
  | 2 => am_R (am_cref a k)
  | 4 => am_I (σ.1 a k)
  | _ => am_q (σ.2.2.1 a k)
def am_fget (σ : am_S) (a x : Nat) : Option am_V := match am_kd a with
  | (6, ci) => match Nat.beq ci (x / 100) && Nat.blt (x % 100) (am_nf ci) with
    | true => some (am_fval σ a ci (x % 100))
    | false => none
  | _ => none
def am_fput (σ : am_S) (a x : Nat) (v : am_V) : Option am_S := match am_kd a with
  | (6, ci) => match Nat.beq ci (x / 100) && Nat.blt (x % 100) (am_nf ci) with
    | true => match am_fty ci (x % 100), v with
      | 0, .inl z => some (am_sI σ a (am_up (σ.1 a) (x % 100) z))
      | 1, .inr (.inl z) => some (am_sL σ a (am_up (σ.2.1 a) (x % 100) z))
      | 3, .inr (.inr r) => some (am_sR σ a (am_up (σ.2.2.1 a) (x % 100) r))
      | _, _ => none
    | false => none
  | _ => none
/-- a truth value into a field of that type -/
def am_fputZ (σ : am_S) (a x : Nat) (z : Int) : Option am_S := match am_kd a with
  | (6, ci) => match Nat.beq ci (x / 100) && Nat.blt (x % 100) (am_nf ci) with
    | true => match am_fty ci (x % 100) with
      | 4 => some (am_sI σ a (am_up (σ.1 a) (x % 100) z))
      | _ => none
    | false => none
  | _ => none
def am_split : Nat → List am_V → List am_V → Option (List am_V × List am_V)
  | 0, acc, S => some (acc, S)
  | _ + 1, _, [] => none
  | n + 1, acc, v :: S => am_split n (v :: acc) S
def am_cats : List am_V → Nat
  | [] => 0
  | v :: S => am_cat v + am_cats S
def am_ret : Option am_V → List am_V → List am_V
  | none, S => S
  | some v, S => v :: S
/-- what a return answers: kind 0 int, 1 truth value, 2 long, 3 reference, 4 nothing -/
def am_rok : Nat → Instr → List am_V → Option am_V → Prop
  | 0, .ireturn, [.inl z], r => r = some (am_I z)
  | 1, .ireturn, [.inl z], r => r = some (am_I z) ∧ (z = 0 ∨ z = 1)
  | 2, .lreturn, [.inr (.inl z)], r => r = some (am_J z)
  | 3, .areturn, [.inr (.inr (some a))], r => r = some (am_R a)
  | 4, .return_, [], r => r = none
  | _, _, _, _ => False
def am_tsw (pc : Nat) (d lo hi : Int) (offs : Array Int) (z : Int) : Nat := ((pc : Int) + (if z < lo ∨ hi < z then d else (offs[(z - lo).toNat]?).getD d)).toNat
def am_lsw (pc : Nat) (d : Int) (ps : List (Int × Int)) (z : Int) : Nat := ((pc : Int) + Op.lookupswitch.offset ps d z).toNat
abbrev am_E : Type := Nat → List am_V → am_S → (Option am_V → am_S → Prop) → Prop
abbrev am_P : Type := Nat → List (Option am_V) → List am_V → am_S → Prop
/-- the values of MOST_OF_SORT -/
def am_sta : Nat → Int
  | 0 => 6
  | 1 => 4
  | 2 => 8
  | 3 => 3
  | _ => 8
section AMR
variable (E : am_E) (na rcv : Nat → Nat) (rk : Nat) (c : List am_O) (Q : Option am_V → am_S → Prop) (P : am_P)
def ar_const : Prop := ∀ pc L S σ i n x v, am_lk c pc = some (i, n, x) → am_kst i x = some v → P (pc + n) L (v :: S) σ → P pc L S σ
def ar_load : Prop := ∀ pc L S σ i n x k t v, am_lk c pc = some (i, n, x) → am_ldk i = some (k, t) → L[k]? = some (some v) → am_ty v = t → P (pc + n) L (v :: S) σ → P pc L S σ
def ar_store : Prop := ∀ pc L S σ i n x k t v, am_lk c pc = some (i, n, x) → am_stk i = some (k, t) → am_ty v = t → am_stOK L k = true → P (pc + n) (L.set k (some v)) S σ → P pc L (v :: S) σ
def ar_iinc : Prop := ∀ pc L S σ k d x z, am_lk c pc = some (.iinc k d, 3, x) → L[k]? = some (some (am_I z)) → am_stOK L k = true → P (pc + 3) (L.set k (some (am_I (am_w (z + d))))) S σ → P pc L S σ
def ar_bop : Prop := ∀ pc L S σ i x f a b, am_lk c pc = some (i, 1, x) → am_bop i = some f → P (pc + 1) L (am_I (f a b) :: S) σ → P pc L (am_I b :: am_I a :: S) σ
def ar_div : Prop := ∀ pc L S σ x a b, am_lk c pc = some (.idiv, 1, x) → b ≠ 0 → P (pc + 1) L (am_I (am_div a b) :: S) σ → P pc L (am_I b :: am_I a :: S) σ
def ar_rem : Prop := ∀ pc L S σ x a b, am_lk c pc = some (.irem, 1, x) → b ≠ 0 → P (pc + 1) L (am_I (am_rem a b) :: S) σ → P pc L (am_I b :: am_I a :: S) σ
def ar_i2l : Prop := ∀ pc L S σ x a, am_lk c pc = some (.i2l, 1, x) → P (pc + 1) L (am_J a :: S) σ → P pc L (am_I a :: S) σ
def ar_lor : Prop := ∀ pc L S σ x a b, am_lk c pc = some (.lor, 1, x) → P (pc + 1) L (am_J (am_lor a b) :: S) σ → P pc L (am_J b :: am_J a :: S) σ
def ar_lshl : Prop := ∀ pc L S σ x a b, am_lk c pc = some (.lshl, 1, x) → P (pc + 1) L (am_J (am_lshl a b) :: S) σ → P pc L (am_I b :: am_J a :: S) σ
def ar_lcmp : Prop := ∀ pc L S σ x a b, am_lk c pc = some (.lcmp, 1, x) → P (pc + 1) L (am_I (am_lcmp a b) :: S) σ → P pc L (am_J b :: am_J a :: S) σ
def ar_i2b : Prop := ∀ pc L S σ x a, am_lk c pc = some (.i2b, 1, x) → P (pc + 1) L (am_I (am_i2b a) :: S) σ → P pc L (am_I a :: S) σ
def ar_i2c : Prop := ∀ pc L S σ x a, am_lk c pc = some (.i2c, 1, x) → P (pc + 1) L (am_I (am_i2c a) :: S) σ → P pc L (am_I a :: S) σ
def ar_dup : Prop := ∀ pc L S σ x v, am_lk c pc = some (.dup, 1, x) → am_cat v = 1 → P (pc + 1) L (v :: v :: S) σ → P pc L (v :: S) σ
def ar_pop : Prop := ∀ pc L S σ x v, am_lk c pc = some (.pop, 1, x) → am_cat v = 1 → P (pc + 1) L S σ → P pc L (v :: S) σ
def ar_dup2 : Prop := ∀ pc L S σ x v w, am_lk c pc = some (.dup2, 1, x) → am_cat v = 1 → am_cat w = 1 → P (pc + 1) L (w :: v :: w :: v :: S) σ → P pc L (w :: v :: S) σ
def ar_if : Prop := ∀ pc L S σ k o x a, am_lk c pc = some (.ifCond k o, 3, x) → (am_cnd k a 0 → P x L S σ) → (¬ am_cnd k a 0 → P (pc + 3) L S σ) → P pc L (am_I a :: S) σ
def ar_icmp : Prop := ∀ pc L S σ k o x a b, am_lk c pc = some (.if_icmp k o, 3, x) → (am_cnd k a b → P x L S σ) → (¬ am_cnd k a b → P (pc + 3) L S σ) → P pc L (am_I b :: am_I a :: S) σ
def ar_goto : Prop := ∀ pc L S σ o x, am_lk c pc = some (.goto o, 3, x) → P x L S σ → P pc L S σ
def ar_tsw : Prop := ∀ pc L S σ d lo hi offs n x z, am_lk c pc = some (.tableswitch d lo hi offs, n, x) → P (am_tsw pc d lo hi offs z) L S σ → P pc L (am_I z :: S) σ
def ar_lsw : Prop := ∀ pc L S σ d ps n x z, am_lk c pc = some (.lookupswitch d ps, n, x) → P (am_lsw pc d ps.toList z) L S σ → P pc L (am_I z :: S) σ
def ar_getf : Prop := ∀ pc L S σ j x a v, am_lk c pc = some (.getfield j, 3, x) → am_fget σ a x = some v → P (pc + 3) L (v :: S) σ → P pc L (am_R a :: S) σ
def ar_putf : Prop := ∀ pc L S σ j x a v σ', am_lk c pc = some (.putfield j, 3, x) → am_fput σ a x v = some σ' → P (pc + 3) L S σ' → P pc L (v :: am_R a :: S) σ
def ar_putz : Prop := ∀ pc L S σ j x a z σ', am_lk c pc = some (.putfield j, 3, x) → am_fputZ σ a x z = some σ' → z = 0 ∨ z = 1 → P (pc + 3) L S σ' → P pc L (am_I z :: am_R a :: S) σ
def ar_gets : Prop := ∀ pc L S σ j x, am_lk c pc = some (.getstatic j, 3, x) → P (pc + 3) L (am_R 901 :: S) σ → P pc L S σ
def ar_iald : Prop := ∀ pc L S σ x a n j, am_lk c pc = some (.iaload, 1, x) → am_kd a = (0, n) → 0 ≤ j → j < (n : Int) → P (pc + 1) L (am_I (σ.1 a j.toNat) :: S) σ → P pc L (am_I j :: am_R a :: S) σ
def ar_bald : Prop := ∀ pc L S σ x a n j, am_lk c pc = some (.baload, 1, x) → (am_kd a = (1, n) ∨ am_kd a = (2, n)) → 0 ≤ j → j < (n : Int) → P (pc + 1) L (am_I (σ.1 a j.toNat) :: S) σ → P pc L (am_I j :: am_R a :: S) σ
def ar_lald : Prop := ∀ pc L S σ x a n j, am_lk c pc = some (.laload, 1, x) → am_kd a = (3, n) → 0 ≤ j → j < (n : Int) → P (pc + 1) L (am_J (σ.2.1 a j.toNat) :: S) σ → P pc L (am_I j :: am_R a :: S) σ
def ar_aald : Prop := ∀ pc L S σ x a n j, am_lk c pc = some (.aaload, 1, x) → (am_kd a = (4, n) ∨ am_kd a = (5, n)) → 0 ≤ j → j < (n : Int) → P (pc + 1) L (am_R (a + 1 + j.toNat) :: S) σ → P pc L (am_I j :: am_R a :: S) σ
def ar_iast : Prop := ∀ pc L S σ x a n j z, am_lk c pc = some (.iastore, 1, x) → am_kd a = (0, n) → 0 ≤ j → j < (n : Int) → P (pc + 1) L S (am_sI σ a (am_up (σ.1 a) j.toNat z)) → P pc L (am_I z :: am_I j :: am_R a :: S) σ
def ar_bast : Prop := ∀ pc L S σ x a n j z, am_lk c pc = some (.bastore, 1, x) → am_kd a = (1, n) → 0 ≤ j → j < (n : Int) → P (pc + 1) L S (am_sI σ a (am_up (σ.1 a) j.toNat (am_w8 z))) → P pc L (am_I z :: am_I j :: am_R a :: S) σ
def ar_zast : Prop := ∀ pc L S σ x a n j z, am_lk c pc = some (.bastore, 1, x) → am_kd a = (2, n) → 0 ≤ j → j < (n : Int) → z = 0 ∨ z = 1 → P (pc + 1) L S (am_sI σ a (am_up (σ.1 a) j.toNat z)) → P pc L (am_I z :: am_I j :: am_R a :: S) σ
def ar_last : Prop := ∀ pc L S σ x a n j z, am_lk c pc = some (.lastore, 1, x) → am_kd a = (3, n) → 0 ≤ j → j < (n : Int) → P (pc + 1) L S (am_sL σ a (am_up (σ.2.1 a) j.toNat z)) → P pc L (am_J z :: am_I j :: am_R a :: S) σ
def ar_alen : Prop := ∀ pc L S σ x a t n, am_lk c pc = some (.arraylength, 1, x) → am_kd a = (t, n) → t < 6 → P (pc + 1) L (am_I (n : Int) :: S) σ → P pc L (am_R a :: S) σ
def ar_sld : Prop := ∀ pc L S σ x j, am_lk c pc = some (.iaload, 1, x) → 0 ≤ j → j < (σ.2.2.2.2 : Int) → P (pc + 1) L (am_I (σ.2.2.2.1 j.toNat) :: S) σ → P pc L (am_I j :: am_R 900 :: S) σ
def ar_slen : Prop := ∀ pc L S σ x, am_lk c pc = some (.arraylength, 1, x) → P (pc + 1) L (am_I (σ.2.2.2.2 : Int) :: S) σ → P pc L (am_R 900 :: S) σ
def ar_tld : Prop := ∀ pc L S σ x j, am_lk c pc = some (.iaload, 1, x) → 0 ≤ j → j < 5 → P (pc + 1) L (am_I (am_sta j.toNat) :: S) σ → P pc L (am_I j :: am_R 901 :: S) σ
def ar_ldcs : Prop := ∀ pc L S σ j x, am_lk c pc = some (.ldc j, 2, x) → x = 4294968198 → P (pc + 2) L (am_R 902 :: S) σ → P pc L S σ
def ar_call : Prop := ∀ pc L S σ i j x as rest, am_lk c pc = some (i, 3, x) → (i = .invokevirtual j ∧ ∃ b bs, as = am_R b :: bs ∧ am_kd b = (6, rcv x)) ∨ i = .invokestatic j → am_split (na x) [] S = some (as, rest) → Nat.ble (am_cats rest) 8 = true → Nat.ble x 1899 = true → E x as σ (fun r σ' => P (pc + 3) L (am_ret r rest) σ') → P pc L S σ
def ar_index : Prop := ∀ pc L S σ j z rest, am_lk c pc = some (.invokevirtual j, 3, 1900) → Nat.ble (am_cats rest) 8 = true → S = am_I z :: am_R 902 :: rest → E 1900 [am_R 902, am_I z] σ (fun r σ' => P (pc + 3) L (am_ret r rest) σ') → P pc L S σ
def ar_max : Prop := ∀ pc L S σ j a b, am_lk c pc = some (.invokestatic j, 3, 2000) → Nat.ble (am_cats S) 8 = true → P (pc + 3) L (am_I (if a < b then b else a) :: S) σ → P pc L (am_I b :: am_I a :: S) σ
def ar_min : Prop := ∀ pc L S σ j a b, am_lk c pc = some (.invokestatic j, 3, 2001) → Nat.ble (am_cats S) 8 = true → P (pc + 3) L (am_I (if b < a then b else a) :: S) σ → P pc L (am_I b :: am_I a :: S) σ
def ar_copy : Prop := ∀ pc L S σ j s n1 sp d n2 dp n, am_lk c pc = some (.invokestatic j, 3, 2002) → Nat.ble (am_cats S) 8 = true → am_kd s = (0, n1) → am_kd d = (0, n2) → 0 ≤ sp → 0 ≤ dp → 0 ≤ n → sp + n ≤ (n1 : Int) → dp + n ≤ (n2 : Int) → P (pc + 3) L S (am_sI σ d (va_cpy (σ.1 s) (σ.1 d) sp.toNat dp.toNat n.toNat)) → P pc L (am_I n :: am_I dp :: am_R d :: am_I sp :: am_R s :: S) σ
def ar_ret : Prop := ∀ pc L S σ i x r, am_lk c pc = some (i, 1, x) → am_rok rk i S r → Q r σ → P pc L S σ
def am_C : Prop := ar_const c P ∧ ar_load c P ∧ ar_store c P ∧ ar_iinc c P ∧ ar_bop c P ∧ ar_div c P ∧ ar_rem c P ∧ ar_i2l c P ∧ ar_lor c P ∧ ar_lshl c P ∧ ar_lcmp c P ∧ ar_i2b c P ∧ ar_i2c c P ∧ ar_dup c P ∧ ar_pop c P ∧ ar_dup2 c P ∧ ar_if c P ∧ ar_icmp c P ∧ ar_goto c P ∧ ar_tsw c P ∧ ar_lsw c P ∧ ar_getf c P ∧ ar_putf c P ∧ ar_putz c P ∧ ar_gets c P ∧ ar_iald c P ∧ ar_bald c P ∧ ar_lald c P ∧ ar_aald c P ∧ ar_iast c P ∧ ar_bast c P ∧ ar_zast c P ∧ ar_last c P ∧ ar_alen c P ∧ ar_sld c P ∧ ar_slen c P ∧ ar_tld c P ∧ ar_ldcs c P ∧ ar_call E na rcv c P ∧ ar_index E c P ∧ ar_max c P ∧ ar_min c P ∧ ar_copy c P ∧ ar_ret rk c Q P
def am_W (pc : Nat) (L : List (Option am_V)) (S : List am_V) (σ : am_S) : Prop := ∀ P : am_P, am_C E na rcv rk c Q P → P pc L S σ
end AMR
