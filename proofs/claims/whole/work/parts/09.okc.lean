def am_has (q : Nat × Nat) : List (Nat × Nat) → Bool
  | [] => false
  | r :: l => (Nat.beq r.1 q.1 && Nat.beq r.2 q.2) || am_has q l
theorem am_has_mem {q : Nat × Nat} : ∀ {l : List (Nat × Nat)}, am_has q l = true → q ∈ l
  | [], h => by cases h
  | r :: l, h => by
    unfold am_has at h
    rw [Bool.or_eq_true, Bool.and_eq_true] at h
    rcases h with ⟨h1, h2⟩ | h
    · have e : q = r := Prod.ext (Nat.eq_of_beq_eq_true h1).symm (Nat.eq_of_beq_eq_true h2).symm
      rw [e]
      exact List.mem_cons_self
    · exact List.mem_cons_of_mem _ (am_has_mem h)
/-- what is checked of an instruction beside its bytes -/
def am_auxb (own pc : Nat) (i : Instr) (x : Nat) : Bool := match i with
  | .ifCond _ o => decide ((pc : Int) + o = (x : Int))
  | .if_icmp _ o => decide ((pc : Int) + o = (x : Int))
  | .goto o => decide ((pc : Int) + o = (x : Int))
  | .getfield j => am_has (j, x) (am_fl own)
  | .putfield j => am_has (j, x) (am_fl own)
  | .tableswitch d lo hi os => decide (0 ≤ (pc : Int) + d) && os.toList.all (fun q => decide (0 ≤ (pc : Int) + q)) && decide (((os.size : Nat) : Int) = hi - lo + 1)
  | .lookupswitch d ps => decide (0 ≤ (pc : Int) + d) && ps.toList.all (fun q => decide (0 ≤ (pc : Int) + q.2)) && (ps.toList.zip (ps.toList.drop 1)).all (fun (a, next) => a.1 < next.1)
  | .ldc j => if x < 2147483648 then am_has (j, x) (am_kl own) else decide (own = 4 ∧ j = 224)
  | .ldc_w j => am_has (j, x) (am_kl own)
  | .ldc2_w j => am_has (j, x) (am_jl own)
  | .getstatic j => decide (own = 4 ∧ j = 123)
  | .invokevirtual j => am_has (j, x) (am_ml own) && (Nat.blt x 263 || decide (x = 1900)) && (decide (x = 1900) || !am_st x)
  | .invokestatic j => am_has (j, x) (am_ml own) && (Nat.blt x 263 || decide (2000 ≤ x)) && (decide (2000 ≤ x) || am_st x)
  | _ => true
def am_len : Instr → Nat → Bool
  | .iconst _, n => Nat.beq n 1
  | .bipush _, n => Nat.beq n 2
  | .sipush _, n => Nat.beq n 3
  | .lconst _, n => Nat.beq n 1
  | .ldc _, n => Nat.beq n 2
  | .ldc_w _, n => Nat.beq n 3
  | .ldc2_w _, n => Nat.beq n 3
  | .iload_n _, n => Nat.beq n 1
  | .iload _, n => Nat.beq n 2
  | .lload_n _, n => Nat.beq n 1
  | .lload _, n => Nat.beq n 2
  | .aload_n _, n => Nat.beq n 1
  | .aload _, n => Nat.beq n 2
  | .istore_n _, n => Nat.beq n 1
  | .istore _, n => Nat.beq n 2
  | .astore_n _, n => Nat.beq n 1
  | .astore _, n => Nat.beq n 2
  | _, _ => true
def am_okc (own : Nat) (b : ByteArray) (c : List am_O) : Bool := c.all (fun e => (decide (decode b e.1 = .ok (e.2.1, e.2.2.1)) && am_auxb own e.1 e.2.1 e.2.2.2) && am_len e.2.1 e.2.2.1)
theorem am_okc_lk {own : Nat} {b : ByteArray} : ∀ {c : List am_O}, am_okc own b c = true → ∀ {pc : Nat} {i : Instr} {n x : Nat}, am_lk c pc = some (i, n, x) → decode b pc = .ok (i, n) ∧ am_auxb own pc i x = true ∧ am_len i n = true
  | [], _, pc, i, n, x, h => by cases h
  | e :: c, hc, pc, i, n, x, h => by
    unfold am_okc at hc
    rw [List.all_cons, Bool.and_eq_true] at hc
    unfold am_lk at h
    split at h
    next hb =>
      have e1 : e.1 = pc := Nat.eq_of_beq_eq_true hb
      have e2 : e.2 = (i, n, x) := Option.some.inj h
      have h3 := hc.1
      rw [Bool.and_eq_true, Bool.and_eq_true, e1, e2] at h3
      exact ⟨of_decide_eq_true h3.1.1, h3.1.2, h3.2⟩
    next => exact am_okc_lk (c := c) hc.2 h
theorem am_okc_app {own : Nat} {b : ByteArray} {c1 c2 : List am_O} (h1 : am_okc own b c1 = true) (h2 : am_okc own b c2 = true) : am_okc own b (c1 ++ c2) = true := by
  unfold am_okc at *
  rw [List.all_append, h1, h2]
  rfl
