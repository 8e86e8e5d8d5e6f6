def s0_i : Nat → Nat → Int := fun a => match a with
  | 2 => fun j => if j = 10 then 40 else 0
  | 34 => fun j => if j = 10 then 40 else 0
  | 66 => fun j => if j = 1 then -1 else if j = 6 then 102 else 0
  | 135 => fun j => if j = 3 then -1 else if j = 55 then 40 else 0
  | _ => fun _ => 0
def s0_l : Nat → Nat → Int := fun a => match a with
  | 67 => fun j => (wF_ j).toInt
  | _ => fun _ => 0
def s0_r : Nat → Nat → Option Nat := fun a => match a with
  | 0 => fun k => if k = 2 then some 2 else none
  | 66 => fun k => if k = 10 then some 2 else none
  | 68 => fun k => if k = 1 then some 34 else none
  | 70 => fun k => if k = 1 then some 2 else none
  | _ => fun _ => none
def kZ_ (xs : Nat → Int32) (L : Nat) : am_S := (s0_i, s0_l, s0_r, fun k => (xs k).toInt, L)
def ad0_ (a8 a9 : Nat → Nat) (b t1 k1 v1 : Nat) (a : Nat) : Nat := if a < 135 then a8 a else if a < 178 then a9 (a - 135) else if a = 900 then b else if a = 901 then t1 else if a = 902 then k1 else v1
def pl0_ (a : Nat) : Nat := if a < 34 then a else if a < 66 then a + 2 else if a < 68 then a - 32 else a
def w0_P (cT : Nat → ClassId) (a8 a9 ad : Nat → Nat) (xs : Nat → Int32) (L : Nat) (a : Nat) : Prop := ∃ e : va_E, (kW_8 cT a8 ++ kW_9 cT a9)[pl0_ a]? = some (ad a, e) ∧ ∀ (D : va_G) (H : Heap), va_at D am_cl (ad a, e) H → va_at D am_cl (ad a, am_cell ad cT (kZ_ xs L) a) H
theorem kFs_ {P : Nat → Prop} {n : Nat} (h : ∀ a, a < n → P a) (hn : P n) : ∀ a, a < n + 1 → P a := by
  intro a ha
  rcases Nat.lt_or_ge a n with q | q
  · exact h a q
  · rw [show a = n by omega]
    exact hn
theorem kF0_ {P : Nat → Prop} : ∀ a, a < 0 → P a := fun _ h => absurd h (Nat.not_lt_zero _)
set_option maxRecDepth 100000 in
set_option maxHeartbeats 4000000 in
theorem w0_0 {cT : Nat → ClassId} {a8 a9 : Nat → Nat} {b t1 k1 v1 : Nat} {xs : Nat → Int32} {L : Nat} : w0_P cT a8 a9 (ad0_ a8 a9 b t1 k1 v1) xs L 0 := ⟨_, rfl, fun _ _ h => h⟩
set_option maxRecDepth 100000 in
set_option maxHeartbeats 4000000 in
theorem w0_1 {cT : Nat → ClassId} {a8 a9 : Nat → Nat} {b t1 k1 v1 : Nat} {xs : Nat → Int32} {L : Nat} : w0_P cT a8 a9 (ad0_ a8 a9 b t1 k1 v1) xs L 1 := ⟨_, rfl, fun _ _ h => h⟩
set_option maxRecDepth 100000 in
set_option maxHeartbeats 4000000 in
theorem w0_2 {cT : Nat → ClassId} {a8 a9 : Nat → Nat} {b t1 k1 v1 : Nat} {xs : Nat → Int32} {L : Nat} : w0_P cT a8 a9 (ad0_ a8 a9 b t1 k1 v1) xs L 2 := ⟨_, rfl, fun _ _ h => h⟩
set_option maxRecDepth 100000 in
set_option maxHeartbeats 4000000 in
theorem w0_3 {cT : Nat → ClassId} {a8 a9 : Nat → Nat} {b t1 k1 v1 : Nat} {xs : Nat → Int32} {L : Nat} : w0_P cT a8 a9 (ad0_ a8 a9 b t1 k1 v1) xs L 3 := ⟨_, rfl, fun _ _ h => h⟩
set_option maxRecDepth 100000 in
set_option maxHeartbeats 4000000 in
theorem w0_4 {cT : Nat → ClassId} {a8 a9 : Nat → Nat} {b t1 k1 v1 : Nat} {xs : Nat → Int32} {L : Nat} : w0_P cT a8 a9 (ad0_ a8 a9 b t1 k1 v1) xs L 4 := ⟨_, rfl, fun _ _ h => at_refs h (fun j hj => by
    match j, hj with
    | 0, _ => rfl
    | 1, _ => rfl
    | 2, _ => rfl
    | 3, _ => rfl
    | j + 4, hj => exact absurd hj (by omega))⟩
set_option maxRecDepth 100000 in
set_option maxHeartbeats 4000000 in
theorem w0_5 {cT : Nat → ClassId} {a8 a9 : Nat → Nat} {b t1 k1 v1 : Nat} {xs : Nat → Int32} {L : Nat} : w0_P cT a8 a9 (ad0_ a8 a9 b t1 k1 v1) xs L 5 := ⟨_, rfl, fun _ _ h => h⟩
set_option maxRecDepth 100000 in
set_option maxHeartbeats 4000000 in
theorem w0_6 {cT : Nat → ClassId} {a8 a9 : Nat → Nat} {b t1 k1 v1 : Nat} {xs : Nat → Int32} {L : Nat} : w0_P cT a8 a9 (ad0_ a8 a9 b t1 k1 v1) xs L 6 := ⟨_, rfl, fun _ _ h => h⟩
set_option maxRecDepth 100000 in
set_option maxHeartbeats 4000000 in
theorem w0_7 {cT : Nat → ClassId} {a8 a9 : Nat → Nat} {b t1 k1 v1 : Nat} {xs : Nat → Int32} {L : Nat} : w0_P cT a8 a9 (ad0_ a8 a9 b t1 k1 v1) xs L 7 := ⟨_, rfl, fun _ _ h => h⟩
set_option maxRecDepth 100000 in
set_option maxHeartbeats 4000000 in
theorem w0_8 {cT : Nat → ClassId} {a8 a9 : Nat → Nat} {b t1 k1 v1 : Nat} {xs : Nat → Int32} {L : Nat} : w0_P cT a8 a9 (ad0_ a8 a9 b t1 k1 v1) xs L 8 := ⟨_, rfl, fun _ _ h => h⟩
set_option maxRecDepth 100000 in
set_option maxHeartbeats 4000000 in
theorem w0_9 {cT : Nat → ClassId} {a8 a9 : Nat → Nat} {b t1 k1 v1 : Nat} {xs : Nat → Int32} {L : Nat} : w0_P cT a8 a9 (ad0_ a8 a9 b t1 k1 v1) xs L 9 := ⟨_, rfl, fun _ _ h => at_refs h (fun j hj => by
    match j, hj with
    | 0, _ => rfl
    | 1, _ => rfl
    | 2, _ => rfl
    | 3, _ => rfl
    | 4, _ => rfl
    | j + 5, hj => exact absurd hj (by omega))⟩
set_option maxRecDepth 100000 in
set_option maxHeartbeats 4000000 in
theorem w0_10 {cT : Nat → ClassId} {a8 a9 : Nat → Nat} {b t1 k1 v1 : Nat} {xs : Nat → Int32} {L : Nat} : w0_P cT a8 a9 (ad0_ a8 a9 b t1 k1 v1) xs L 10 := ⟨_, rfl, fun _ _ h => h⟩
set_option maxRecDepth 100000 in
set_option maxHeartbeats 4000000 in
theorem w0_11 {cT : Nat → ClassId} {a8 a9 : Nat → Nat} {b t1 k1 v1 : Nat} {xs : Nat → Int32} {L : Nat} : w0_P cT a8 a9 (ad0_ a8 a9 b t1 k1 v1) xs L 11 := ⟨_, rfl, fun _ _ h => h⟩
set_option maxRecDepth 100000 in
set_option maxHeartbeats 4000000 in
theorem w0_12 {cT : Nat → ClassId} {a8 a9 : Nat → Nat} {b t1 k1 v1 : Nat} {xs : Nat → Int32} {L : Nat} : w0_P cT a8 a9 (ad0_ a8 a9 b t1 k1 v1) xs L 12 := ⟨_, rfl, fun _ _ h => h⟩
set_option maxRecDepth 100000 in
set_option maxHeartbeats 4000000 in
theorem w0_13 {cT : Nat → ClassId} {a8 a9 : Nat → Nat} {b t1 k1 v1 : Nat} {xs : Nat → Int32} {L : Nat} : w0_P cT a8 a9 (ad0_ a8 a9 b t1 k1 v1) xs L 13 := ⟨_, rfl, fun _ _ h => h⟩
set_option maxRecDepth 100000 in
set_option maxHeartbeats 4000000 in
theorem w0_14 {cT : Nat → ClassId} {a8 a9 : Nat → Nat} {b t1 k1 v1 : Nat} {xs : Nat → Int32} {L : Nat} : w0_P cT a8 a9 (ad0_ a8 a9 b t1 k1 v1) xs L 14 := ⟨_, rfl, fun _ _ h => h⟩
set_option maxRecDepth 100000 in
set_option maxHeartbeats 4000000 in
theorem w0_15 {cT : Nat → ClassId} {a8 a9 : Nat → Nat} {b t1 k1 v1 : Nat} {xs : Nat → Int32} {L : Nat} : w0_P cT a8 a9 (ad0_ a8 a9 b t1 k1 v1) xs L 15 := ⟨_, rfl, fun _ _ h => h⟩
set_option maxRecDepth 100000 in
set_option maxHeartbeats 4000000 in
theorem w0_16 {cT : Nat → ClassId} {a8 a9 : Nat → Nat} {b t1 k1 v1 : Nat} {xs : Nat → Int32} {L : Nat} : w0_P cT a8 a9 (ad0_ a8 a9 b t1 k1 v1) xs L 16 := ⟨_, rfl, fun _ _ h => h⟩
set_option maxRecDepth 100000 in
set_option maxHeartbeats 4000000 in
theorem w0_17 {cT : Nat → ClassId} {a8 a9 : Nat → Nat} {b t1 k1 v1 : Nat} {xs : Nat → Int32} {L : Nat} : w0_P cT a8 a9 (ad0_ a8 a9 b t1 k1 v1) xs L 17 := ⟨_, rfl, fun _ _ h => at_refs h (fun j hj => by
    match j, hj with
    | 0, _ => rfl
    | 1, _ => rfl
    | 2, _ => rfl
    | j + 3, hj => exact absurd hj (by omega))⟩
set_option maxRecDepth 100000 in
set_option maxHeartbeats 4000000 in
theorem w0_18 {cT : Nat → ClassId} {a8 a9 : Nat → Nat} {b t1 k1 v1 : Nat} {xs : Nat → Int32} {L : Nat} : w0_P cT a8 a9 (ad0_ a8 a9 b t1 k1 v1) xs L 18 := ⟨_, rfl, fun _ _ h => h⟩
set_option maxRecDepth 100000 in
set_option maxHeartbeats 4000000 in
theorem w0_19 {cT : Nat → ClassId} {a8 a9 : Nat → Nat} {b t1 k1 v1 : Nat} {xs : Nat → Int32} {L : Nat} : w0_P cT a8 a9 (ad0_ a8 a9 b t1 k1 v1) xs L 19 := ⟨_, rfl, fun _ _ h => h⟩
set_option maxRecDepth 100000 in
set_option maxHeartbeats 4000000 in
theorem w0_20 {cT : Nat → ClassId} {a8 a9 : Nat → Nat} {b t1 k1 v1 : Nat} {xs : Nat → Int32} {L : Nat} : w0_P cT a8 a9 (ad0_ a8 a9 b t1 k1 v1) xs L 20 := ⟨_, rfl, fun _ _ h => h⟩
set_option maxRecDepth 100000 in
set_option maxHeartbeats 4000000 in
theorem w0_21 {cT : Nat → ClassId} {a8 a9 : Nat → Nat} {b t1 k1 v1 : Nat} {xs : Nat → Int32} {L : Nat} : w0_P cT a8 a9 (ad0_ a8 a9 b t1 k1 v1) xs L 21 := ⟨_, rfl, fun _ _ h => h⟩
set_option maxRecDepth 100000 in
set_option maxHeartbeats 4000000 in
theorem w0_22 {cT : Nat → ClassId} {a8 a9 : Nat → Nat} {b t1 k1 v1 : Nat} {xs : Nat → Int32} {L : Nat} : w0_P cT a8 a9 (ad0_ a8 a9 b t1 k1 v1) xs L 22 := ⟨_, rfl, fun _ _ h => h⟩
set_option maxRecDepth 100000 in
set_option maxHeartbeats 4000000 in
theorem w0_23 {cT : Nat → ClassId} {a8 a9 : Nat → Nat} {b t1 k1 v1 : Nat} {xs : Nat → Int32} {L : Nat} : w0_P cT a8 a9 (ad0_ a8 a9 b t1 k1 v1) xs L 23 := ⟨_, rfl, fun _ _ h => at_refs h (fun j hj => by
    match j, hj with
    | 0, _ => rfl
    | 1, _ => rfl
    | 2, _ => rfl
    | 3, _ => rfl
    | 4, _ => rfl
    | 5, _ => rfl
    | j + 6, hj => exact absurd hj (by omega))⟩
set_option maxRecDepth 100000 in
set_option maxHeartbeats 4000000 in
theorem w0_24 {cT : Nat → ClassId} {a8 a9 : Nat → Nat} {b t1 k1 v1 : Nat} {xs : Nat → Int32} {L : Nat} : w0_P cT a8 a9 (ad0_ a8 a9 b t1 k1 v1) xs L 24 := ⟨_, rfl, fun _ _ h => h⟩
set_option maxRecDepth 100000 in
set_option maxHeartbeats 4000000 in
theorem w0_25 {cT : Nat → ClassId} {a8 a9 : Nat → Nat} {b t1 k1 v1 : Nat} {xs : Nat → Int32} {L : Nat} : w0_P cT a8 a9 (ad0_ a8 a9 b t1 k1 v1) xs L 25 := ⟨_, rfl, fun _ _ h => h⟩
set_option maxRecDepth 100000 in
set_option maxHeartbeats 4000000 in
theorem w0_26 {cT : Nat → ClassId} {a8 a9 : Nat → Nat} {b t1 k1 v1 : Nat} {xs : Nat → Int32} {L : Nat} : w0_P cT a8 a9 (ad0_ a8 a9 b t1 k1 v1) xs L 26 := ⟨_, rfl, fun _ _ h => h⟩
set_option maxRecDepth 100000 in
set_option maxHeartbeats 4000000 in
theorem w0_27 {cT : Nat → ClassId} {a8 a9 : Nat → Nat} {b t1 k1 v1 : Nat} {xs : Nat → Int32} {L : Nat} : w0_P cT a8 a9 (ad0_ a8 a9 b t1 k1 v1) xs L 27 := ⟨_, rfl, fun _ _ h => h⟩
set_option maxRecDepth 100000 in
set_option maxHeartbeats 4000000 in
theorem w0_28 {cT : Nat → ClassId} {a8 a9 : Nat → Nat} {b t1 k1 v1 : Nat} {xs : Nat → Int32} {L : Nat} : w0_P cT a8 a9 (ad0_ a8 a9 b t1 k1 v1) xs L 28 := ⟨_, rfl, fun _ _ h => h⟩
set_option maxRecDepth 100000 in
set_option maxHeartbeats 4000000 in
theorem w0_29 {cT : Nat → ClassId} {a8 a9 : Nat → Nat} {b t1 k1 v1 : Nat} {xs : Nat → Int32} {L : Nat} : w0_P cT a8 a9 (ad0_ a8 a9 b t1 k1 v1) xs L 29 := ⟨_, rfl, fun _ _ h => h⟩
set_option maxRecDepth 100000 in
set_option maxHeartbeats 4000000 in
theorem w0_30 {cT : Nat → ClassId} {a8 a9 : Nat → Nat} {b t1 k1 v1 : Nat} {xs : Nat → Int32} {L : Nat} : w0_P cT a8 a9 (ad0_ a8 a9 b t1 k1 v1) xs L 30 := ⟨_, rfl, fun _ _ h => h⟩
set_option maxRecDepth 100000 in
set_option maxHeartbeats 4000000 in
theorem w0_31 {cT : Nat → ClassId} {a8 a9 : Nat → Nat} {b t1 k1 v1 : Nat} {xs : Nat → Int32} {L : Nat} : w0_P cT a8 a9 (ad0_ a8 a9 b t1 k1 v1) xs L 31 := ⟨_, rfl, fun _ _ h => h⟩
set_option maxRecDepth 100000 in
set_option maxHeartbeats 4000000 in
theorem w0_32 {cT : Nat → ClassId} {a8 a9 : Nat → Nat} {b t1 k1 v1 : Nat} {xs : Nat → Int32} {L : Nat} : w0_P cT a8 a9 (ad0_ a8 a9 b t1 k1 v1) xs L 32 := ⟨_, rfl, fun _ _ h => h⟩
set_option maxRecDepth 100000 in
set_option maxHeartbeats 4000000 in
theorem w0_33 {cT : Nat → ClassId} {a8 a9 : Nat → Nat} {b t1 k1 v1 : Nat} {xs : Nat → Int32} {L : Nat} : w0_P cT a8 a9 (ad0_ a8 a9 b t1 k1 v1) xs L 33 := ⟨_, rfl, fun _ _ h => h⟩
set_option maxRecDepth 100000 in
set_option maxHeartbeats 4000000 in
theorem w0_34 {cT : Nat → ClassId} {a8 a9 : Nat → Nat} {b t1 k1 v1 : Nat} {xs : Nat → Int32} {L : Nat} : w0_P cT a8 a9 (ad0_ a8 a9 b t1 k1 v1) xs L 34 := ⟨_, rfl, fun _ _ h => h⟩
set_option maxRecDepth 100000 in
set_option maxHeartbeats 4000000 in
theorem w0_35 {cT : Nat → ClassId} {a8 a9 : Nat → Nat} {b t1 k1 v1 : Nat} {xs : Nat → Int32} {L : Nat} : w0_P cT a8 a9 (ad0_ a8 a9 b t1 k1 v1) xs L 35 := ⟨_, rfl, fun _ _ h => h⟩
set_option maxRecDepth 100000 in
set_option maxHeartbeats 4000000 in
theorem w0_36 {cT : Nat → ClassId} {a8 a9 : Nat → Nat} {b t1 k1 v1 : Nat} {xs : Nat → Int32} {L : Nat} : w0_P cT a8 a9 (ad0_ a8 a9 b t1 k1 v1) xs L 36 := ⟨_, rfl, fun _ _ h => at_refs h (fun j hj => by
    match j, hj with
    | 0, _ => rfl
    | 1, _ => rfl
    | 2, _ => rfl
    | 3, _ => rfl
    | j + 4, hj => exact absurd hj (by omega))⟩
set_option maxRecDepth 100000 in
set_option maxHeartbeats 4000000 in
theorem w0_37 {cT : Nat → ClassId} {a8 a9 : Nat → Nat} {b t1 k1 v1 : Nat} {xs : Nat → Int32} {L : Nat} : w0_P cT a8 a9 (ad0_ a8 a9 b t1 k1 v1) xs L 37 := ⟨_, rfl, fun _ _ h => h⟩
set_option maxRecDepth 100000 in
set_option maxHeartbeats 4000000 in
theorem w0_38 {cT : Nat → ClassId} {a8 a9 : Nat → Nat} {b t1 k1 v1 : Nat} {xs : Nat → Int32} {L : Nat} : w0_P cT a8 a9 (ad0_ a8 a9 b t1 k1 v1) xs L 38 := ⟨_, rfl, fun _ _ h => h⟩
set_option maxRecDepth 100000 in
set_option maxHeartbeats 4000000 in
theorem w0_39 {cT : Nat → ClassId} {a8 a9 : Nat → Nat} {b t1 k1 v1 : Nat} {xs : Nat → Int32} {L : Nat} : w0_P cT a8 a9 (ad0_ a8 a9 b t1 k1 v1) xs L 39 := ⟨_, rfl, fun _ _ h => h⟩
set_option maxRecDepth 100000 in
set_option maxHeartbeats 4000000 in
theorem w0_40 {cT : Nat → ClassId} {a8 a9 : Nat → Nat} {b t1 k1 v1 : Nat} {xs : Nat → Int32} {L : Nat} : w0_P cT a8 a9 (ad0_ a8 a9 b t1 k1 v1) xs L 40 := ⟨_, rfl, fun _ _ h => h⟩
set_option maxRecDepth 100000 in
set_option maxHeartbeats 4000000 in
theorem w0_41 {cT : Nat → ClassId} {a8 a9 : Nat → Nat} {b t1 k1 v1 : Nat} {xs : Nat → Int32} {L : Nat} : w0_P cT a8 a9 (ad0_ a8 a9 b t1 k1 v1) xs L 41 := ⟨_, rfl, fun _ _ h => at_refs h (fun j hj => by
    match j, hj with
    | 0, _ => rfl
    | 1, _ => rfl
    | 2, _ => rfl
    | 3, _ => rfl
    | 4, _ => rfl
    | j + 5, hj => exact absurd hj (by omega))⟩
set_option maxRecDepth 100000 in
set_option maxHeartbeats 4000000 in
theorem w0_42 {cT : Nat → ClassId} {a8 a9 : Nat → Nat} {b t1 k1 v1 : Nat} {xs : Nat → Int32} {L : Nat} : w0_P cT a8 a9 (ad0_ a8 a9 b t1 k1 v1) xs L 42 := ⟨_, rfl, fun _ _ h => h⟩
set_option maxRecDepth 100000 in
set_option maxHeartbeats 4000000 in
theorem w0_43 {cT : Nat → ClassId} {a8 a9 : Nat → Nat} {b t1 k1 v1 : Nat} {xs : Nat → Int32} {L : Nat} : w0_P cT a8 a9 (ad0_ a8 a9 b t1 k1 v1) xs L 43 := ⟨_, rfl, fun _ _ h => h⟩
set_option maxRecDepth 100000 in
set_option maxHeartbeats 4000000 in
theorem w0_44 {cT : Nat → ClassId} {a8 a9 : Nat → Nat} {b t1 k1 v1 : Nat} {xs : Nat → Int32} {L : Nat} : w0_P cT a8 a9 (ad0_ a8 a9 b t1 k1 v1) xs L 44 := ⟨_, rfl, fun _ _ h => h⟩
set_option maxRecDepth 100000 in
set_option maxHeartbeats 4000000 in
theorem w0_45 {cT : Nat → ClassId} {a8 a9 : Nat → Nat} {b t1 k1 v1 : Nat} {xs : Nat → Int32} {L : Nat} : w0_P cT a8 a9 (ad0_ a8 a9 b t1 k1 v1) xs L 45 := ⟨_, rfl, fun _ _ h => h⟩
set_option maxRecDepth 100000 in
set_option maxHeartbeats 4000000 in
theorem w0_46 {cT : Nat → ClassId} {a8 a9 : Nat → Nat} {b t1 k1 v1 : Nat} {xs : Nat → Int32} {L : Nat} : w0_P cT a8 a9 (ad0_ a8 a9 b t1 k1 v1) xs L 46 := ⟨_, rfl, fun _ _ h => h⟩
set_option maxRecDepth 100000 in
set_option maxHeartbeats 4000000 in
theorem w0_47 {cT : Nat → ClassId} {a8 a9 : Nat → Nat} {b t1 k1 v1 : Nat} {xs : Nat → Int32} {L : Nat} : w0_P cT a8 a9 (ad0_ a8 a9 b t1 k1 v1) xs L 47 := ⟨_, rfl, fun _ _ h => h⟩
set_option maxRecDepth 100000 in
set_option maxHeartbeats 4000000 in
theorem w0_48 {cT : Nat → ClassId} {a8 a9 : Nat → Nat} {b t1 k1 v1 : Nat} {xs : Nat → Int32} {L : Nat} : w0_P cT a8 a9 (ad0_ a8 a9 b t1 k1 v1) xs L 48 := ⟨_, rfl, fun _ _ h => h⟩
set_option maxRecDepth 100000 in
set_option maxHeartbeats 4000000 in
theorem w0_49 {cT : Nat → ClassId} {a8 a9 : Nat → Nat} {b t1 k1 v1 : Nat} {xs : Nat → Int32} {L : Nat} : w0_P cT a8 a9 (ad0_ a8 a9 b t1 k1 v1) xs L 49 := ⟨_, rfl, fun _ _ h => at_refs h (fun j hj => by
    match j, hj with
    | 0, _ => rfl
    | 1, _ => rfl
    | 2, _ => rfl
    | j + 3, hj => exact absurd hj (by omega))⟩
set_option maxRecDepth 100000 in
set_option maxHeartbeats 4000000 in
theorem w0_50 {cT : Nat → ClassId} {a8 a9 : Nat → Nat} {b t1 k1 v1 : Nat} {xs : Nat → Int32} {L : Nat} : w0_P cT a8 a9 (ad0_ a8 a9 b t1 k1 v1) xs L 50 := ⟨_, rfl, fun _ _ h => h⟩
set_option maxRecDepth 100000 in
set_option maxHeartbeats 4000000 in
theorem w0_51 {cT : Nat → ClassId} {a8 a9 : Nat → Nat} {b t1 k1 v1 : Nat} {xs : Nat → Int32} {L : Nat} : w0_P cT a8 a9 (ad0_ a8 a9 b t1 k1 v1) xs L 51 := ⟨_, rfl, fun _ _ h => h⟩
set_option maxRecDepth 100000 in
set_option maxHeartbeats 4000000 in
theorem w0_52 {cT : Nat → ClassId} {a8 a9 : Nat → Nat} {b t1 k1 v1 : Nat} {xs : Nat → Int32} {L : Nat} : w0_P cT a8 a9 (ad0_ a8 a9 b t1 k1 v1) xs L 52 := ⟨_, rfl, fun _ _ h => h⟩
set_option maxRecDepth 100000 in
set_option maxHeartbeats 4000000 in
theorem w0_53 {cT : Nat → ClassId} {a8 a9 : Nat → Nat} {b t1 k1 v1 : Nat} {xs : Nat → Int32} {L : Nat} : w0_P cT a8 a9 (ad0_ a8 a9 b t1 k1 v1) xs L 53 := ⟨_, rfl, fun _ _ h => h⟩
set_option maxRecDepth 100000 in
set_option maxHeartbeats 4000000 in
theorem w0_54 {cT : Nat → ClassId} {a8 a9 : Nat → Nat} {b t1 k1 v1 : Nat} {xs : Nat → Int32} {L : Nat} : w0_P cT a8 a9 (ad0_ a8 a9 b t1 k1 v1) xs L 54 := ⟨_, rfl, fun _ _ h => h⟩
set_option maxRecDepth 100000 in
set_option maxHeartbeats 4000000 in
theorem w0_55 {cT : Nat → ClassId} {a8 a9 : Nat → Nat} {b t1 k1 v1 : Nat} {xs : Nat → Int32} {L : Nat} : w0_P cT a8 a9 (ad0_ a8 a9 b t1 k1 v1) xs L 55 := ⟨_, rfl, fun _ _ h => at_refs h (fun j hj => by
    match j, hj with
    | 0, _ => rfl
    | 1, _ => rfl
    | 2, _ => rfl
    | 3, _ => rfl
    | 4, _ => rfl
    | 5, _ => rfl
    | j + 6, hj => exact absurd hj (by omega))⟩
set_option maxRecDepth 100000 in
set_option maxHeartbeats 4000000 in
theorem w0_56 {cT : Nat → ClassId} {a8 a9 : Nat → Nat} {b t1 k1 v1 : Nat} {xs : Nat → Int32} {L : Nat} : w0_P cT a8 a9 (ad0_ a8 a9 b t1 k1 v1) xs L 56 := ⟨_, rfl, fun _ _ h => h⟩
set_option maxRecDepth 100000 in
set_option maxHeartbeats 4000000 in
theorem w0_57 {cT : Nat → ClassId} {a8 a9 : Nat → Nat} {b t1 k1 v1 : Nat} {xs : Nat → Int32} {L : Nat} : w0_P cT a8 a9 (ad0_ a8 a9 b t1 k1 v1) xs L 57 := ⟨_, rfl, fun _ _ h => h⟩
set_option maxRecDepth 100000 in
set_option maxHeartbeats 4000000 in
theorem w0_58 {cT : Nat → ClassId} {a8 a9 : Nat → Nat} {b t1 k1 v1 : Nat} {xs : Nat → Int32} {L : Nat} : w0_P cT a8 a9 (ad0_ a8 a9 b t1 k1 v1) xs L 58 := ⟨_, rfl, fun _ _ h => h⟩
set_option maxRecDepth 100000 in
set_option maxHeartbeats 4000000 in
theorem w0_59 {cT : Nat → ClassId} {a8 a9 : Nat → Nat} {b t1 k1 v1 : Nat} {xs : Nat → Int32} {L : Nat} : w0_P cT a8 a9 (ad0_ a8 a9 b t1 k1 v1) xs L 59 := ⟨_, rfl, fun _ _ h => h⟩
set_option maxRecDepth 100000 in
set_option maxHeartbeats 4000000 in
theorem w0_60 {cT : Nat → ClassId} {a8 a9 : Nat → Nat} {b t1 k1 v1 : Nat} {xs : Nat → Int32} {L : Nat} : w0_P cT a8 a9 (ad0_ a8 a9 b t1 k1 v1) xs L 60 := ⟨_, rfl, fun _ _ h => h⟩
set_option maxRecDepth 100000 in
set_option maxHeartbeats 4000000 in
theorem w0_61 {cT : Nat → ClassId} {a8 a9 : Nat → Nat} {b t1 k1 v1 : Nat} {xs : Nat → Int32} {L : Nat} : w0_P cT a8 a9 (ad0_ a8 a9 b t1 k1 v1) xs L 61 := ⟨_, rfl, fun _ _ h => h⟩
set_option maxRecDepth 100000 in
set_option maxHeartbeats 4000000 in
theorem w0_62 {cT : Nat → ClassId} {a8 a9 : Nat → Nat} {b t1 k1 v1 : Nat} {xs : Nat → Int32} {L : Nat} : w0_P cT a8 a9 (ad0_ a8 a9 b t1 k1 v1) xs L 62 := ⟨_, rfl, fun _ _ h => h⟩
set_option maxRecDepth 100000 in
set_option maxHeartbeats 4000000 in
theorem w0_63 {cT : Nat → ClassId} {a8 a9 : Nat → Nat} {b t1 k1 v1 : Nat} {xs : Nat → Int32} {L : Nat} : w0_P cT a8 a9 (ad0_ a8 a9 b t1 k1 v1) xs L 63 := ⟨_, rfl, fun _ _ h => h⟩
set_option maxRecDepth 100000 in
set_option maxHeartbeats 4000000 in
theorem w0_64 {cT : Nat → ClassId} {a8 a9 : Nat → Nat} {b t1 k1 v1 : Nat} {xs : Nat → Int32} {L : Nat} : w0_P cT a8 a9 (ad0_ a8 a9 b t1 k1 v1) xs L 64 := ⟨_, rfl, fun _ _ h => h⟩
set_option maxRecDepth 100000 in
set_option maxHeartbeats 4000000 in
theorem w0_65 {cT : Nat → ClassId} {a8 a9 : Nat → Nat} {b t1 k1 v1 : Nat} {xs : Nat → Int32} {L : Nat} : w0_P cT a8 a9 (ad0_ a8 a9 b t1 k1 v1) xs L 65 := ⟨_, rfl, fun _ _ h => h⟩
set_option maxRecDepth 100000 in
set_option maxHeartbeats 4000000 in
theorem w0_66 {cT : Nat → ClassId} {a8 a9 : Nat → Nat} {b t1 k1 v1 : Nat} {xs : Nat → Int32} {L : Nat} : w0_P cT a8 a9 (ad0_ a8 a9 b t1 k1 v1) xs L 66 := ⟨_, rfl, fun _ _ h => h⟩
set_option maxRecDepth 100000 in
set_option maxHeartbeats 4000000 in
theorem w0_67 {cT : Nat → ClassId} {a8 a9 : Nat → Nat} {b t1 k1 v1 : Nat} {xs : Nat → Int32} {L : Nat} : w0_P cT a8 a9 (ad0_ a8 a9 b t1 k1 v1) xs L 67 := ⟨_, rfl, fun _ _ h => by
    have e : am_cell (ad0_ a8 a9 b t1 k1 v1) cT (kZ_ xs L) 67 = .inl (cT 3, 21, .inr (.inl wF_)) := by
      show Sum.inl (cT 3, 21, Sum.inr (Sum.inl (fun j => Int64.ofInt ((wF_ j).toInt)))) = _
      rw [show (fun j => Int64.ofInt ((wF_ j).toInt)) = wF_ from funext fun j => Int64.ofInt_toInt (wF_ j)]
    rw [e]
    exact h⟩
set_option maxRecDepth 100000 in
set_option maxHeartbeats 4000000 in
theorem w0_68 {cT : Nat → ClassId} {a8 a9 : Nat → Nat} {b t1 k1 v1 : Nat} {xs : Nat → Int32} {L : Nat} : w0_P cT a8 a9 (ad0_ a8 a9 b t1 k1 v1) xs L 68 := ⟨_, rfl, fun _ _ h => h⟩
set_option maxRecDepth 100000 in
set_option maxHeartbeats 4000000 in
theorem w0_69 {cT : Nat → ClassId} {a8 a9 : Nat → Nat} {b t1 k1 v1 : Nat} {xs : Nat → Int32} {L : Nat} : w0_P cT a8 a9 (ad0_ a8 a9 b t1 k1 v1) xs L 69 := ⟨_, rfl, fun _ _ h => h⟩
set_option maxRecDepth 100000 in
set_option maxHeartbeats 4000000 in
theorem w0_70 {cT : Nat → ClassId} {a8 a9 : Nat → Nat} {b t1 k1 v1 : Nat} {xs : Nat → Int32} {L : Nat} : w0_P cT a8 a9 (ad0_ a8 a9 b t1 k1 v1) xs L 70 := ⟨_, rfl, fun _ _ h => h⟩
set_option maxRecDepth 100000 in
set_option maxHeartbeats 4000000 in
theorem w0_71 {cT : Nat → ClassId} {a8 a9 : Nat → Nat} {b t1 k1 v1 : Nat} {xs : Nat → Int32} {L : Nat} : w0_P cT a8 a9 (ad0_ a8 a9 b t1 k1 v1) xs L 71 := ⟨_, rfl, fun _ _ h => h⟩
set_option maxRecDepth 100000 in
set_option maxHeartbeats 4000000 in
theorem w0_72 {cT : Nat → ClassId} {a8 a9 : Nat → Nat} {b t1 k1 v1 : Nat} {xs : Nat → Int32} {L : Nat} : w0_P cT a8 a9 (ad0_ a8 a9 b t1 k1 v1) xs L 72 := ⟨_, rfl, fun _ _ h => h⟩
set_option maxRecDepth 100000 in
set_option maxHeartbeats 4000000 in
theorem w0_73 {cT : Nat → ClassId} {a8 a9 : Nat → Nat} {b t1 k1 v1 : Nat} {xs : Nat → Int32} {L : Nat} : w0_P cT a8 a9 (ad0_ a8 a9 b t1 k1 v1) xs L 73 := ⟨_, rfl, fun _ _ h => at_refs h (fun j hj => by
    match j, hj with
    | 0, _ => rfl
    | 1, _ => rfl
    | 2, _ => rfl
    | 3, _ => rfl
    | 4, _ => rfl
    | 5, _ => rfl
    | 6, _ => rfl
    | 7, _ => rfl
    | 8, _ => rfl
    | 9, _ => rfl
    | 10, _ => rfl
    | 11, _ => rfl
    | 12, _ => rfl
    | 13, _ => rfl
    | 14, _ => rfl
    | 15, _ => rfl
    | 16, _ => rfl
    | 17, _ => rfl
    | 18, _ => rfl
    | 19, _ => rfl
    | 20, _ => rfl
    | 21, _ => rfl
    | 22, _ => rfl
    | 23, _ => rfl
    | 24, _ => rfl
    | 25, _ => rfl
    | 26, _ => rfl
    | 27, _ => rfl
    | 28, _ => rfl
    | 29, _ => rfl
    | 30, _ => rfl
    | 31, _ => rfl
    | 32, _ => rfl
    | 33, _ => rfl
    | 34, _ => rfl
    | 35, _ => rfl
    | 36, _ => rfl
    | 37, _ => rfl
    | 38, _ => rfl
    | 39, _ => rfl
    | 40, _ => rfl
    | j + 41, hj => exact absurd hj (by omega))⟩
set_option maxRecDepth 100000 in
set_option maxHeartbeats 4000000 in
theorem w0_74 {cT : Nat → ClassId} {a8 a9 : Nat → Nat} {b t1 k1 v1 : Nat} {xs : Nat → Int32} {L : Nat} : w0_P cT a8 a9 (ad0_ a8 a9 b t1 k1 v1) xs L 74 := ⟨_, rfl, fun _ _ h => h⟩
set_option maxRecDepth 100000 in
set_option maxHeartbeats 4000000 in
theorem w0_75 {cT : Nat → ClassId} {a8 a9 : Nat → Nat} {b t1 k1 v1 : Nat} {xs : Nat → Int32} {L : Nat} : w0_P cT a8 a9 (ad0_ a8 a9 b t1 k1 v1) xs L 75 := ⟨_, rfl, fun _ _ h => h⟩
set_option maxRecDepth 100000 in
set_option maxHeartbeats 4000000 in
theorem w0_76 {cT : Nat → ClassId} {a8 a9 : Nat → Nat} {b t1 k1 v1 : Nat} {xs : Nat → Int32} {L : Nat} : w0_P cT a8 a9 (ad0_ a8 a9 b t1 k1 v1) xs L 76 := ⟨_, rfl, fun _ _ h => h⟩
set_option maxRecDepth 100000 in
set_option maxHeartbeats 4000000 in
theorem w0_77 {cT : Nat → ClassId} {a8 a9 : Nat → Nat} {b t1 k1 v1 : Nat} {xs : Nat → Int32} {L : Nat} : w0_P cT a8 a9 (ad0_ a8 a9 b t1 k1 v1) xs L 77 := ⟨_, rfl, fun _ _ h => h⟩
set_option maxRecDepth 100000 in
set_option maxHeartbeats 4000000 in
theorem w0_78 {cT : Nat → ClassId} {a8 a9 : Nat → Nat} {b t1 k1 v1 : Nat} {xs : Nat → Int32} {L : Nat} : w0_P cT a8 a9 (ad0_ a8 a9 b t1 k1 v1) xs L 78 := ⟨_, rfl, fun _ _ h => h⟩
set_option maxRecDepth 100000 in
set_option maxHeartbeats 4000000 in
theorem w0_79 {cT : Nat → ClassId} {a8 a9 : Nat → Nat} {b t1 k1 v1 : Nat} {xs : Nat → Int32} {L : Nat} : w0_P cT a8 a9 (ad0_ a8 a9 b t1 k1 v1) xs L 79 := ⟨_, rfl, fun _ _ h => h⟩
set_option maxRecDepth 100000 in
set_option maxHeartbeats 4000000 in
theorem w0_80 {cT : Nat → ClassId} {a8 a9 : Nat → Nat} {b t1 k1 v1 : Nat} {xs : Nat → Int32} {L : Nat} : w0_P cT a8 a9 (ad0_ a8 a9 b t1 k1 v1) xs L 80 := ⟨_, rfl, fun _ _ h => h⟩
set_option maxRecDepth 100000 in
set_option maxHeartbeats 4000000 in
theorem w0_81 {cT : Nat → ClassId} {a8 a9 : Nat → Nat} {b t1 k1 v1 : Nat} {xs : Nat → Int32} {L : Nat} : w0_P cT a8 a9 (ad0_ a8 a9 b t1 k1 v1) xs L 81 := ⟨_, rfl, fun _ _ h => h⟩
set_option maxRecDepth 100000 in
set_option maxHeartbeats 4000000 in
theorem w0_82 {cT : Nat → ClassId} {a8 a9 : Nat → Nat} {b t1 k1 v1 : Nat} {xs : Nat → Int32} {L : Nat} : w0_P cT a8 a9 (ad0_ a8 a9 b t1 k1 v1) xs L 82 := ⟨_, rfl, fun _ _ h => h⟩
set_option maxRecDepth 100000 in
set_option maxHeartbeats 4000000 in
theorem w0_83 {cT : Nat → ClassId} {a8 a9 : Nat → Nat} {b t1 k1 v1 : Nat} {xs : Nat → Int32} {L : Nat} : w0_P cT a8 a9 (ad0_ a8 a9 b t1 k1 v1) xs L 83 := ⟨_, rfl, fun _ _ h => h⟩
set_option maxRecDepth 100000 in
set_option maxHeartbeats 4000000 in
theorem w0_84 {cT : Nat → ClassId} {a8 a9 : Nat → Nat} {b t1 k1 v1 : Nat} {xs : Nat → Int32} {L : Nat} : w0_P cT a8 a9 (ad0_ a8 a9 b t1 k1 v1) xs L 84 := ⟨_, rfl, fun _ _ h => h⟩
set_option maxRecDepth 100000 in
set_option maxHeartbeats 4000000 in
theorem w0_85 {cT : Nat → ClassId} {a8 a9 : Nat → Nat} {b t1 k1 v1 : Nat} {xs : Nat → Int32} {L : Nat} : w0_P cT a8 a9 (ad0_ a8 a9 b t1 k1 v1) xs L 85 := ⟨_, rfl, fun _ _ h => h⟩
set_option maxRecDepth 100000 in
set_option maxHeartbeats 4000000 in
theorem w0_86 {cT : Nat → ClassId} {a8 a9 : Nat → Nat} {b t1 k1 v1 : Nat} {xs : Nat → Int32} {L : Nat} : w0_P cT a8 a9 (ad0_ a8 a9 b t1 k1 v1) xs L 86 := ⟨_, rfl, fun _ _ h => h⟩
set_option maxRecDepth 100000 in
set_option maxHeartbeats 4000000 in
theorem w0_87 {cT : Nat → ClassId} {a8 a9 : Nat → Nat} {b t1 k1 v1 : Nat} {xs : Nat → Int32} {L : Nat} : w0_P cT a8 a9 (ad0_ a8 a9 b t1 k1 v1) xs L 87 := ⟨_, rfl, fun _ _ h => h⟩
set_option maxRecDepth 100000 in
set_option maxHeartbeats 4000000 in
theorem w0_88 {cT : Nat → ClassId} {a8 a9 : Nat → Nat} {b t1 k1 v1 : Nat} {xs : Nat → Int32} {L : Nat} : w0_P cT a8 a9 (ad0_ a8 a9 b t1 k1 v1) xs L 88 := ⟨_, rfl, fun _ _ h => h⟩
set_option maxRecDepth 100000 in
set_option maxHeartbeats 4000000 in
theorem w0_89 {cT : Nat → ClassId} {a8 a9 : Nat → Nat} {b t1 k1 v1 : Nat} {xs : Nat → Int32} {L : Nat} : w0_P cT a8 a9 (ad0_ a8 a9 b t1 k1 v1) xs L 89 := ⟨_, rfl, fun _ _ h => h⟩
set_option maxRecDepth 100000 in
set_option maxHeartbeats 4000000 in
theorem w0_90 {cT : Nat → ClassId} {a8 a9 : Nat → Nat} {b t1 k1 v1 : Nat} {xs : Nat → Int32} {L : Nat} : w0_P cT a8 a9 (ad0_ a8 a9 b t1 k1 v1) xs L 90 := ⟨_, rfl, fun _ _ h => h⟩
set_option maxRecDepth 100000 in
set_option maxHeartbeats 4000000 in
theorem w0_91 {cT : Nat → ClassId} {a8 a9 : Nat → Nat} {b t1 k1 v1 : Nat} {xs : Nat → Int32} {L : Nat} : w0_P cT a8 a9 (ad0_ a8 a9 b t1 k1 v1) xs L 91 := ⟨_, rfl, fun _ _ h => h⟩
set_option maxRecDepth 100000 in
set_option maxHeartbeats 4000000 in
theorem w0_92 {cT : Nat → ClassId} {a8 a9 : Nat → Nat} {b t1 k1 v1 : Nat} {xs : Nat → Int32} {L : Nat} : w0_P cT a8 a9 (ad0_ a8 a9 b t1 k1 v1) xs L 92 := ⟨_, rfl, fun _ _ h => h⟩
set_option maxRecDepth 100000 in
set_option maxHeartbeats 4000000 in
theorem w0_93 {cT : Nat → ClassId} {a8 a9 : Nat → Nat} {b t1 k1 v1 : Nat} {xs : Nat → Int32} {L : Nat} : w0_P cT a8 a9 (ad0_ a8 a9 b t1 k1 v1) xs L 93 := ⟨_, rfl, fun _ _ h => h⟩
set_option maxRecDepth 100000 in
set_option maxHeartbeats 4000000 in
theorem w0_94 {cT : Nat → ClassId} {a8 a9 : Nat → Nat} {b t1 k1 v1 : Nat} {xs : Nat → Int32} {L : Nat} : w0_P cT a8 a9 (ad0_ a8 a9 b t1 k1 v1) xs L 94 := ⟨_, rfl, fun _ _ h => h⟩
set_option maxRecDepth 100000 in
set_option maxHeartbeats 4000000 in
theorem w0_95 {cT : Nat → ClassId} {a8 a9 : Nat → Nat} {b t1 k1 v1 : Nat} {xs : Nat → Int32} {L : Nat} : w0_P cT a8 a9 (ad0_ a8 a9 b t1 k1 v1) xs L 95 := ⟨_, rfl, fun _ _ h => h⟩
set_option maxRecDepth 100000 in
set_option maxHeartbeats 4000000 in
theorem w0_96 {cT : Nat → ClassId} {a8 a9 : Nat → Nat} {b t1 k1 v1 : Nat} {xs : Nat → Int32} {L : Nat} : w0_P cT a8 a9 (ad0_ a8 a9 b t1 k1 v1) xs L 96 := ⟨_, rfl, fun _ _ h => h⟩
set_option maxRecDepth 100000 in
set_option maxHeartbeats 4000000 in
theorem w0_97 {cT : Nat → ClassId} {a8 a9 : Nat → Nat} {b t1 k1 v1 : Nat} {xs : Nat → Int32} {L : Nat} : w0_P cT a8 a9 (ad0_ a8 a9 b t1 k1 v1) xs L 97 := ⟨_, rfl, fun _ _ h => h⟩
set_option maxRecDepth 100000 in
set_option maxHeartbeats 4000000 in
theorem w0_98 {cT : Nat → ClassId} {a8 a9 : Nat → Nat} {b t1 k1 v1 : Nat} {xs : Nat → Int32} {L : Nat} : w0_P cT a8 a9 (ad0_ a8 a9 b t1 k1 v1) xs L 98 := ⟨_, rfl, fun _ _ h => h⟩
set_option maxRecDepth 100000 in
set_option maxHeartbeats 4000000 in
theorem w0_99 {cT : Nat → ClassId} {a8 a9 : Nat → Nat} {b t1 k1 v1 : Nat} {xs : Nat → Int32} {L : Nat} : w0_P cT a8 a9 (ad0_ a8 a9 b t1 k1 v1) xs L 99 := ⟨_, rfl, fun _ _ h => h⟩
set_option maxRecDepth 100000 in
set_option maxHeartbeats 4000000 in
theorem w0_100 {cT : Nat → ClassId} {a8 a9 : Nat → Nat} {b t1 k1 v1 : Nat} {xs : Nat → Int32} {L : Nat} : w0_P cT a8 a9 (ad0_ a8 a9 b t1 k1 v1) xs L 100 := ⟨_, rfl, fun _ _ h => h⟩
set_option maxRecDepth 100000 in
set_option maxHeartbeats 4000000 in
theorem w0_101 {cT : Nat → ClassId} {a8 a9 : Nat → Nat} {b t1 k1 v1 : Nat} {xs : Nat → Int32} {L : Nat} : w0_P cT a8 a9 (ad0_ a8 a9 b t1 k1 v1) xs L 101 := ⟨_, rfl, fun _ _ h => h⟩
set_option maxRecDepth 100000 in
set_option maxHeartbeats 4000000 in
theorem w0_102 {cT : Nat → ClassId} {a8 a9 : Nat → Nat} {b t1 k1 v1 : Nat} {xs : Nat → Int32} {L : Nat} : w0_P cT a8 a9 (ad0_ a8 a9 b t1 k1 v1) xs L 102 := ⟨_, rfl, fun _ _ h => h⟩
set_option maxRecDepth 100000 in
set_option maxHeartbeats 4000000 in
theorem w0_103 {cT : Nat → ClassId} {a8 a9 : Nat → Nat} {b t1 k1 v1 : Nat} {xs : Nat → Int32} {L : Nat} : w0_P cT a8 a9 (ad0_ a8 a9 b t1 k1 v1) xs L 103 := ⟨_, rfl, fun _ _ h => h⟩
set_option maxRecDepth 100000 in
set_option maxHeartbeats 4000000 in
theorem w0_104 {cT : Nat → ClassId} {a8 a9 : Nat → Nat} {b t1 k1 v1 : Nat} {xs : Nat → Int32} {L : Nat} : w0_P cT a8 a9 (ad0_ a8 a9 b t1 k1 v1) xs L 104 := ⟨_, rfl, fun _ _ h => h⟩
set_option maxRecDepth 100000 in
set_option maxHeartbeats 4000000 in
theorem w0_105 {cT : Nat → ClassId} {a8 a9 : Nat → Nat} {b t1 k1 v1 : Nat} {xs : Nat → Int32} {L : Nat} : w0_P cT a8 a9 (ad0_ a8 a9 b t1 k1 v1) xs L 105 := ⟨_, rfl, fun _ _ h => h⟩
set_option maxRecDepth 100000 in
set_option maxHeartbeats 4000000 in
theorem w0_106 {cT : Nat → ClassId} {a8 a9 : Nat → Nat} {b t1 k1 v1 : Nat} {xs : Nat → Int32} {L : Nat} : w0_P cT a8 a9 (ad0_ a8 a9 b t1 k1 v1) xs L 106 := ⟨_, rfl, fun _ _ h => h⟩
set_option maxRecDepth 100000 in
set_option maxHeartbeats 4000000 in
theorem w0_107 {cT : Nat → ClassId} {a8 a9 : Nat → Nat} {b t1 k1 v1 : Nat} {xs : Nat → Int32} {L : Nat} : w0_P cT a8 a9 (ad0_ a8 a9 b t1 k1 v1) xs L 107 := ⟨_, rfl, fun _ _ h => h⟩
set_option maxRecDepth 100000 in
set_option maxHeartbeats 4000000 in
theorem w0_108 {cT : Nat → ClassId} {a8 a9 : Nat → Nat} {b t1 k1 v1 : Nat} {xs : Nat → Int32} {L : Nat} : w0_P cT a8 a9 (ad0_ a8 a9 b t1 k1 v1) xs L 108 := ⟨_, rfl, fun _ _ h => h⟩
set_option maxRecDepth 100000 in
set_option maxHeartbeats 4000000 in
theorem w0_109 {cT : Nat → ClassId} {a8 a9 : Nat → Nat} {b t1 k1 v1 : Nat} {xs : Nat → Int32} {L : Nat} : w0_P cT a8 a9 (ad0_ a8 a9 b t1 k1 v1) xs L 109 := ⟨_, rfl, fun _ _ h => h⟩
set_option maxRecDepth 100000 in
set_option maxHeartbeats 4000000 in
theorem w0_110 {cT : Nat → ClassId} {a8 a9 : Nat → Nat} {b t1 k1 v1 : Nat} {xs : Nat → Int32} {L : Nat} : w0_P cT a8 a9 (ad0_ a8 a9 b t1 k1 v1) xs L 110 := ⟨_, rfl, fun _ _ h => h⟩
set_option maxRecDepth 100000 in
set_option maxHeartbeats 4000000 in
theorem w0_111 {cT : Nat → ClassId} {a8 a9 : Nat → Nat} {b t1 k1 v1 : Nat} {xs : Nat → Int32} {L : Nat} : w0_P cT a8 a9 (ad0_ a8 a9 b t1 k1 v1) xs L 111 := ⟨_, rfl, fun _ _ h => h⟩
set_option maxRecDepth 100000 in
set_option maxHeartbeats 4000000 in
theorem w0_112 {cT : Nat → ClassId} {a8 a9 : Nat → Nat} {b t1 k1 v1 : Nat} {xs : Nat → Int32} {L : Nat} : w0_P cT a8 a9 (ad0_ a8 a9 b t1 k1 v1) xs L 112 := ⟨_, rfl, fun _ _ h => h⟩
set_option maxRecDepth 100000 in
set_option maxHeartbeats 4000000 in
theorem w0_113 {cT : Nat → ClassId} {a8 a9 : Nat → Nat} {b t1 k1 v1 : Nat} {xs : Nat → Int32} {L : Nat} : w0_P cT a8 a9 (ad0_ a8 a9 b t1 k1 v1) xs L 113 := ⟨_, rfl, fun _ _ h => h⟩
set_option maxRecDepth 100000 in
set_option maxHeartbeats 4000000 in
theorem w0_114 {cT : Nat → ClassId} {a8 a9 : Nat → Nat} {b t1 k1 v1 : Nat} {xs : Nat → Int32} {L : Nat} : w0_P cT a8 a9 (ad0_ a8 a9 b t1 k1 v1) xs L 114 := ⟨_, rfl, fun _ _ h => h⟩
set_option maxRecDepth 100000 in
set_option maxHeartbeats 4000000 in
theorem w0_115 {cT : Nat → ClassId} {a8 a9 : Nat → Nat} {b t1 k1 v1 : Nat} {xs : Nat → Int32} {L : Nat} : w0_P cT a8 a9 (ad0_ a8 a9 b t1 k1 v1) xs L 115 := ⟨_, rfl, fun _ _ h => at_refs h (fun j hj => by
    match j, hj with
    | 0, _ => rfl
    | 1, _ => rfl
    | 2, _ => rfl
    | j + 3, hj => exact absurd hj (by omega))⟩
set_option maxRecDepth 100000 in
set_option maxHeartbeats 4000000 in
theorem w0_116 {cT : Nat → ClassId} {a8 a9 : Nat → Nat} {b t1 k1 v1 : Nat} {xs : Nat → Int32} {L : Nat} : w0_P cT a8 a9 (ad0_ a8 a9 b t1 k1 v1) xs L 116 := ⟨_, rfl, fun _ _ h => h⟩
set_option maxRecDepth 100000 in
set_option maxHeartbeats 4000000 in
theorem w0_117 {cT : Nat → ClassId} {a8 a9 : Nat → Nat} {b t1 k1 v1 : Nat} {xs : Nat → Int32} {L : Nat} : w0_P cT a8 a9 (ad0_ a8 a9 b t1 k1 v1) xs L 117 := ⟨_, rfl, fun _ _ h => h⟩
set_option maxRecDepth 100000 in
set_option maxHeartbeats 4000000 in
theorem w0_118 {cT : Nat → ClassId} {a8 a9 : Nat → Nat} {b t1 k1 v1 : Nat} {xs : Nat → Int32} {L : Nat} : w0_P cT a8 a9 (ad0_ a8 a9 b t1 k1 v1) xs L 118 := ⟨_, rfl, fun _ _ h => h⟩
set_option maxRecDepth 100000 in
set_option maxHeartbeats 4000000 in
theorem w0_119 {cT : Nat → ClassId} {a8 a9 : Nat → Nat} {b t1 k1 v1 : Nat} {xs : Nat → Int32} {L : Nat} : w0_P cT a8 a9 (ad0_ a8 a9 b t1 k1 v1) xs L 119 := ⟨_, rfl, fun _ _ h => h⟩
set_option maxRecDepth 100000 in
set_option maxHeartbeats 4000000 in
theorem w0_120 {cT : Nat → ClassId} {a8 a9 : Nat → Nat} {b t1 k1 v1 : Nat} {xs : Nat → Int32} {L : Nat} : w0_P cT a8 a9 (ad0_ a8 a9 b t1 k1 v1) xs L 120 := ⟨_, rfl, fun _ _ h => h⟩
set_option maxRecDepth 100000 in
set_option maxHeartbeats 4000000 in
theorem w0_121 {cT : Nat → ClassId} {a8 a9 : Nat → Nat} {b t1 k1 v1 : Nat} {xs : Nat → Int32} {L : Nat} : w0_P cT a8 a9 (ad0_ a8 a9 b t1 k1 v1) xs L 121 := ⟨_, rfl, fun _ _ h => h⟩
set_option maxRecDepth 100000 in
set_option maxHeartbeats 4000000 in
theorem w0_122 {cT : Nat → ClassId} {a8 a9 : Nat → Nat} {b t1 k1 v1 : Nat} {xs : Nat → Int32} {L : Nat} : w0_P cT a8 a9 (ad0_ a8 a9 b t1 k1 v1) xs L 122 := ⟨_, rfl, fun _ _ h => h⟩
set_option maxRecDepth 100000 in
set_option maxHeartbeats 4000000 in
theorem w0_123 {cT : Nat → ClassId} {a8 a9 : Nat → Nat} {b t1 k1 v1 : Nat} {xs : Nat → Int32} {L : Nat} : w0_P cT a8 a9 (ad0_ a8 a9 b t1 k1 v1) xs L 123 := ⟨_, rfl, fun _ _ h => h⟩
set_option maxRecDepth 100000 in
set_option maxHeartbeats 4000000 in
theorem w0_124 {cT : Nat → ClassId} {a8 a9 : Nat → Nat} {b t1 k1 v1 : Nat} {xs : Nat → Int32} {L : Nat} : w0_P cT a8 a9 (ad0_ a8 a9 b t1 k1 v1) xs L 124 := ⟨_, rfl, fun _ _ h => h⟩
set_option maxRecDepth 100000 in
set_option maxHeartbeats 4000000 in
theorem w0_125 {cT : Nat → ClassId} {a8 a9 : Nat → Nat} {b t1 k1 v1 : Nat} {xs : Nat → Int32} {L : Nat} : w0_P cT a8 a9 (ad0_ a8 a9 b t1 k1 v1) xs L 125 := ⟨_, rfl, fun _ _ h => h⟩
set_option maxRecDepth 100000 in
set_option maxHeartbeats 4000000 in
theorem w0_126 {cT : Nat → ClassId} {a8 a9 : Nat → Nat} {b t1 k1 v1 : Nat} {xs : Nat → Int32} {L : Nat} : w0_P cT a8 a9 (ad0_ a8 a9 b t1 k1 v1) xs L 126 := ⟨_, rfl, fun _ _ h => h⟩
set_option maxRecDepth 100000 in
set_option maxHeartbeats 4000000 in
theorem w0_127 {cT : Nat → ClassId} {a8 a9 : Nat → Nat} {b t1 k1 v1 : Nat} {xs : Nat → Int32} {L : Nat} : w0_P cT a8 a9 (ad0_ a8 a9 b t1 k1 v1) xs L 127 := ⟨_, rfl, fun _ _ h => h⟩
set_option maxRecDepth 100000 in
set_option maxHeartbeats 4000000 in
theorem w0_128 {cT : Nat → ClassId} {a8 a9 : Nat → Nat} {b t1 k1 v1 : Nat} {xs : Nat → Int32} {L : Nat} : w0_P cT a8 a9 (ad0_ a8 a9 b t1 k1 v1) xs L 128 := ⟨_, rfl, fun _ _ h => h⟩
set_option maxRecDepth 100000 in
set_option maxHeartbeats 4000000 in
theorem w0_129 {cT : Nat → ClassId} {a8 a9 : Nat → Nat} {b t1 k1 v1 : Nat} {xs : Nat → Int32} {L : Nat} : w0_P cT a8 a9 (ad0_ a8 a9 b t1 k1 v1) xs L 129 := ⟨_, rfl, fun _ _ h => h⟩
set_option maxRecDepth 100000 in
set_option maxHeartbeats 4000000 in
theorem w0_130 {cT : Nat → ClassId} {a8 a9 : Nat → Nat} {b t1 k1 v1 : Nat} {xs : Nat → Int32} {L : Nat} : w0_P cT a8 a9 (ad0_ a8 a9 b t1 k1 v1) xs L 130 := ⟨_, rfl, fun _ _ h => h⟩
set_option maxRecDepth 100000 in
set_option maxHeartbeats 4000000 in
theorem w0_131 {cT : Nat → ClassId} {a8 a9 : Nat → Nat} {b t1 k1 v1 : Nat} {xs : Nat → Int32} {L : Nat} : w0_P cT a8 a9 (ad0_ a8 a9 b t1 k1 v1) xs L 131 := ⟨_, rfl, fun _ _ h => h⟩
set_option maxRecDepth 100000 in
set_option maxHeartbeats 4000000 in
theorem w0_132 {cT : Nat → ClassId} {a8 a9 : Nat → Nat} {b t1 k1 v1 : Nat} {xs : Nat → Int32} {L : Nat} : w0_P cT a8 a9 (ad0_ a8 a9 b t1 k1 v1) xs L 132 := ⟨_, rfl, fun _ _ h => h⟩
set_option maxRecDepth 100000 in
set_option maxHeartbeats 4000000 in
theorem w0_133 {cT : Nat → ClassId} {a8 a9 : Nat → Nat} {b t1 k1 v1 : Nat} {xs : Nat → Int32} {L : Nat} : w0_P cT a8 a9 (ad0_ a8 a9 b t1 k1 v1) xs L 133 := ⟨_, rfl, fun _ _ h => h⟩
set_option maxRecDepth 100000 in
set_option maxHeartbeats 4000000 in
theorem w0_134 {cT : Nat → ClassId} {a8 a9 : Nat → Nat} {b t1 k1 v1 : Nat} {xs : Nat → Int32} {L : Nat} : w0_P cT a8 a9 (ad0_ a8 a9 b t1 k1 v1) xs L 134 := ⟨_, rfl, fun _ _ h => h⟩
set_option maxRecDepth 100000 in
set_option maxHeartbeats 4000000 in
theorem w0_135 {cT : Nat → ClassId} {a8 a9 : Nat → Nat} {b t1 k1 v1 : Nat} {xs : Nat → Int32} {L : Nat} : w0_P cT a8 a9 (ad0_ a8 a9 b t1 k1 v1) xs L 135 := ⟨_, rfl, fun _ _ h => h⟩
set_option maxRecDepth 100000 in
set_option maxHeartbeats 4000000 in
theorem w0_136 {cT : Nat → ClassId} {a8 a9 : Nat → Nat} {b t1 k1 v1 : Nat} {xs : Nat → Int32} {L : Nat} : w0_P cT a8 a9 (ad0_ a8 a9 b t1 k1 v1) xs L 136 := ⟨_, rfl, fun _ _ h => h⟩
set_option maxRecDepth 100000 in
set_option maxHeartbeats 4000000 in
theorem w0_137 {cT : Nat → ClassId} {a8 a9 : Nat → Nat} {b t1 k1 v1 : Nat} {xs : Nat → Int32} {L : Nat} : w0_P cT a8 a9 (ad0_ a8 a9 b t1 k1 v1) xs L 137 := ⟨_, rfl, fun _ _ h => h⟩
set_option maxRecDepth 100000 in
set_option maxHeartbeats 4000000 in
theorem w0_138 {cT : Nat → ClassId} {a8 a9 : Nat → Nat} {b t1 k1 v1 : Nat} {xs : Nat → Int32} {L : Nat} : w0_P cT a8 a9 (ad0_ a8 a9 b t1 k1 v1) xs L 138 := ⟨_, rfl, fun _ _ h => h⟩
set_option maxRecDepth 100000 in
set_option maxHeartbeats 4000000 in
theorem w0_139 {cT : Nat → ClassId} {a8 a9 : Nat → Nat} {b t1 k1 v1 : Nat} {xs : Nat → Int32} {L : Nat} : w0_P cT a8 a9 (ad0_ a8 a9 b t1 k1 v1) xs L 139 := ⟨_, rfl, fun _ _ h => h⟩
set_option maxRecDepth 100000 in
set_option maxHeartbeats 4000000 in
theorem w0_140 {cT : Nat → ClassId} {a8 a9 : Nat → Nat} {b t1 k1 v1 : Nat} {xs : Nat → Int32} {L : Nat} : w0_P cT a8 a9 (ad0_ a8 a9 b t1 k1 v1) xs L 140 := ⟨_, rfl, fun _ _ h => h⟩
set_option maxRecDepth 100000 in
set_option maxHeartbeats 4000000 in
theorem w0_141 {cT : Nat → ClassId} {a8 a9 : Nat → Nat} {b t1 k1 v1 : Nat} {xs : Nat → Int32} {L : Nat} : w0_P cT a8 a9 (ad0_ a8 a9 b t1 k1 v1) xs L 141 := ⟨_, rfl, fun _ _ h => h⟩
set_option maxRecDepth 100000 in
set_option maxHeartbeats 4000000 in
theorem w0_142 {cT : Nat → ClassId} {a8 a9 : Nat → Nat} {b t1 k1 v1 : Nat} {xs : Nat → Int32} {L : Nat} : w0_P cT a8 a9 (ad0_ a8 a9 b t1 k1 v1) xs L 142 := ⟨_, rfl, fun _ _ h => h⟩
set_option maxRecDepth 100000 in
set_option maxHeartbeats 4000000 in
theorem w0_143 {cT : Nat → ClassId} {a8 a9 : Nat → Nat} {b t1 k1 v1 : Nat} {xs : Nat → Int32} {L : Nat} : w0_P cT a8 a9 (ad0_ a8 a9 b t1 k1 v1) xs L 143 := ⟨_, rfl, fun _ _ h => h⟩
set_option maxRecDepth 100000 in
set_option maxHeartbeats 4000000 in
theorem w0_144 {cT : Nat → ClassId} {a8 a9 : Nat → Nat} {b t1 k1 v1 : Nat} {xs : Nat → Int32} {L : Nat} : w0_P cT a8 a9 (ad0_ a8 a9 b t1 k1 v1) xs L 144 := ⟨_, rfl, fun _ _ h => h⟩
set_option maxRecDepth 100000 in
set_option maxHeartbeats 4000000 in
theorem w0_145 {cT : Nat → ClassId} {a8 a9 : Nat → Nat} {b t1 k1 v1 : Nat} {xs : Nat → Int32} {L : Nat} : w0_P cT a8 a9 (ad0_ a8 a9 b t1 k1 v1) xs L 145 := ⟨_, rfl, fun _ _ h => h⟩
set_option maxRecDepth 100000 in
set_option maxHeartbeats 4000000 in
theorem w0_146 {cT : Nat → ClassId} {a8 a9 : Nat → Nat} {b t1 k1 v1 : Nat} {xs : Nat → Int32} {L : Nat} : w0_P cT a8 a9 (ad0_ a8 a9 b t1 k1 v1) xs L 146 := ⟨_, rfl, fun _ _ h => h⟩
set_option maxRecDepth 100000 in
set_option maxHeartbeats 4000000 in
theorem w0_147 {cT : Nat → ClassId} {a8 a9 : Nat → Nat} {b t1 k1 v1 : Nat} {xs : Nat → Int32} {L : Nat} : w0_P cT a8 a9 (ad0_ a8 a9 b t1 k1 v1) xs L 147 := ⟨_, rfl, fun _ _ h => h⟩
set_option maxRecDepth 100000 in
set_option maxHeartbeats 4000000 in
theorem w0_148 {cT : Nat → ClassId} {a8 a9 : Nat → Nat} {b t1 k1 v1 : Nat} {xs : Nat → Int32} {L : Nat} : w0_P cT a8 a9 (ad0_ a8 a9 b t1 k1 v1) xs L 148 := ⟨_, rfl, fun _ _ h => h⟩
set_option maxRecDepth 100000 in
set_option maxHeartbeats 4000000 in
theorem w0_149 {cT : Nat → ClassId} {a8 a9 : Nat → Nat} {b t1 k1 v1 : Nat} {xs : Nat → Int32} {L : Nat} : w0_P cT a8 a9 (ad0_ a8 a9 b t1 k1 v1) xs L 149 := ⟨_, rfl, fun _ _ h => h⟩
set_option maxRecDepth 100000 in
set_option maxHeartbeats 4000000 in
theorem w0_150 {cT : Nat → ClassId} {a8 a9 : Nat → Nat} {b t1 k1 v1 : Nat} {xs : Nat → Int32} {L : Nat} : w0_P cT a8 a9 (ad0_ a8 a9 b t1 k1 v1) xs L 150 := ⟨_, rfl, fun _ _ h => h⟩
set_option maxRecDepth 100000 in
set_option maxHeartbeats 4000000 in
theorem w0_151 {cT : Nat → ClassId} {a8 a9 : Nat → Nat} {b t1 k1 v1 : Nat} {xs : Nat → Int32} {L : Nat} : w0_P cT a8 a9 (ad0_ a8 a9 b t1 k1 v1) xs L 151 := ⟨_, rfl, fun _ _ h => h⟩
set_option maxRecDepth 100000 in
set_option maxHeartbeats 4000000 in
theorem w0_152 {cT : Nat → ClassId} {a8 a9 : Nat → Nat} {b t1 k1 v1 : Nat} {xs : Nat → Int32} {L : Nat} : w0_P cT a8 a9 (ad0_ a8 a9 b t1 k1 v1) xs L 152 := ⟨_, rfl, fun _ _ h => h⟩
set_option maxRecDepth 100000 in
set_option maxHeartbeats 4000000 in
theorem w0_153 {cT : Nat → ClassId} {a8 a9 : Nat → Nat} {b t1 k1 v1 : Nat} {xs : Nat → Int32} {L : Nat} : w0_P cT a8 a9 (ad0_ a8 a9 b t1 k1 v1) xs L 153 := ⟨_, rfl, fun _ _ h => h⟩
set_option maxRecDepth 100000 in
set_option maxHeartbeats 4000000 in
theorem w0_154 {cT : Nat → ClassId} {a8 a9 : Nat → Nat} {b t1 k1 v1 : Nat} {xs : Nat → Int32} {L : Nat} : w0_P cT a8 a9 (ad0_ a8 a9 b t1 k1 v1) xs L 154 := ⟨_, rfl, fun _ _ h => h⟩
set_option maxRecDepth 100000 in
set_option maxHeartbeats 4000000 in
theorem w0_155 {cT : Nat → ClassId} {a8 a9 : Nat → Nat} {b t1 k1 v1 : Nat} {xs : Nat → Int32} {L : Nat} : w0_P cT a8 a9 (ad0_ a8 a9 b t1 k1 v1) xs L 155 := ⟨_, rfl, fun _ _ h => h⟩
set_option maxRecDepth 100000 in
set_option maxHeartbeats 4000000 in
theorem w0_156 {cT : Nat → ClassId} {a8 a9 : Nat → Nat} {b t1 k1 v1 : Nat} {xs : Nat → Int32} {L : Nat} : w0_P cT a8 a9 (ad0_ a8 a9 b t1 k1 v1) xs L 156 := ⟨_, rfl, fun _ _ h => h⟩
set_option maxRecDepth 100000 in
set_option maxHeartbeats 4000000 in
theorem w0_157 {cT : Nat → ClassId} {a8 a9 : Nat → Nat} {b t1 k1 v1 : Nat} {xs : Nat → Int32} {L : Nat} : w0_P cT a8 a9 (ad0_ a8 a9 b t1 k1 v1) xs L 157 := ⟨_, rfl, fun _ _ h => h⟩
set_option maxRecDepth 100000 in
set_option maxHeartbeats 4000000 in
theorem w0_158 {cT : Nat → ClassId} {a8 a9 : Nat → Nat} {b t1 k1 v1 : Nat} {xs : Nat → Int32} {L : Nat} : w0_P cT a8 a9 (ad0_ a8 a9 b t1 k1 v1) xs L 158 := ⟨_, rfl, fun _ _ h => h⟩
set_option maxRecDepth 100000 in
set_option maxHeartbeats 4000000 in
theorem w0_159 {cT : Nat → ClassId} {a8 a9 : Nat → Nat} {b t1 k1 v1 : Nat} {xs : Nat → Int32} {L : Nat} : w0_P cT a8 a9 (ad0_ a8 a9 b t1 k1 v1) xs L 159 := ⟨_, rfl, fun _ _ h => h⟩
set_option maxRecDepth 100000 in
set_option maxHeartbeats 4000000 in
theorem w0_160 {cT : Nat → ClassId} {a8 a9 : Nat → Nat} {b t1 k1 v1 : Nat} {xs : Nat → Int32} {L : Nat} : w0_P cT a8 a9 (ad0_ a8 a9 b t1 k1 v1) xs L 160 := ⟨_, rfl, fun _ _ h => h⟩
set_option maxRecDepth 100000 in
set_option maxHeartbeats 4000000 in
theorem w0_161 {cT : Nat → ClassId} {a8 a9 : Nat → Nat} {b t1 k1 v1 : Nat} {xs : Nat → Int32} {L : Nat} : w0_P cT a8 a9 (ad0_ a8 a9 b t1 k1 v1) xs L 161 := ⟨_, rfl, fun _ _ h => h⟩
set_option maxRecDepth 100000 in
set_option maxHeartbeats 4000000 in
theorem w0_162 {cT : Nat → ClassId} {a8 a9 : Nat → Nat} {b t1 k1 v1 : Nat} {xs : Nat → Int32} {L : Nat} : w0_P cT a8 a9 (ad0_ a8 a9 b t1 k1 v1) xs L 162 := ⟨_, rfl, fun _ _ h => h⟩
set_option maxRecDepth 100000 in
set_option maxHeartbeats 4000000 in
theorem w0_163 {cT : Nat → ClassId} {a8 a9 : Nat → Nat} {b t1 k1 v1 : Nat} {xs : Nat → Int32} {L : Nat} : w0_P cT a8 a9 (ad0_ a8 a9 b t1 k1 v1) xs L 163 := ⟨_, rfl, fun _ _ h => h⟩
set_option maxRecDepth 100000 in
set_option maxHeartbeats 4000000 in
theorem w0_164 {cT : Nat → ClassId} {a8 a9 : Nat → Nat} {b t1 k1 v1 : Nat} {xs : Nat → Int32} {L : Nat} : w0_P cT a8 a9 (ad0_ a8 a9 b t1 k1 v1) xs L 164 := ⟨_, rfl, fun _ _ h => h⟩
set_option maxRecDepth 100000 in
set_option maxHeartbeats 4000000 in
theorem w0_165 {cT : Nat → ClassId} {a8 a9 : Nat → Nat} {b t1 k1 v1 : Nat} {xs : Nat → Int32} {L : Nat} : w0_P cT a8 a9 (ad0_ a8 a9 b t1 k1 v1) xs L 165 := ⟨_, rfl, fun _ _ h => h⟩
set_option maxRecDepth 100000 in
set_option maxHeartbeats 4000000 in
theorem w0_166 {cT : Nat → ClassId} {a8 a9 : Nat → Nat} {b t1 k1 v1 : Nat} {xs : Nat → Int32} {L : Nat} : w0_P cT a8 a9 (ad0_ a8 a9 b t1 k1 v1) xs L 166 := ⟨_, rfl, fun _ _ h => h⟩
set_option maxRecDepth 100000 in
set_option maxHeartbeats 4000000 in
theorem w0_167 {cT : Nat → ClassId} {a8 a9 : Nat → Nat} {b t1 k1 v1 : Nat} {xs : Nat → Int32} {L : Nat} : w0_P cT a8 a9 (ad0_ a8 a9 b t1 k1 v1) xs L 167 := ⟨_, rfl, fun _ _ h => h⟩
set_option maxRecDepth 100000 in
set_option maxHeartbeats 4000000 in
theorem w0_168 {cT : Nat → ClassId} {a8 a9 : Nat → Nat} {b t1 k1 v1 : Nat} {xs : Nat → Int32} {L : Nat} : w0_P cT a8 a9 (ad0_ a8 a9 b t1 k1 v1) xs L 168 := ⟨_, rfl, fun _ _ h => h⟩
set_option maxRecDepth 100000 in
set_option maxHeartbeats 4000000 in
theorem w0_169 {cT : Nat → ClassId} {a8 a9 : Nat → Nat} {b t1 k1 v1 : Nat} {xs : Nat → Int32} {L : Nat} : w0_P cT a8 a9 (ad0_ a8 a9 b t1 k1 v1) xs L 169 := ⟨_, rfl, fun _ _ h => h⟩
set_option maxRecDepth 100000 in
set_option maxHeartbeats 4000000 in
theorem w0_170 {cT : Nat → ClassId} {a8 a9 : Nat → Nat} {b t1 k1 v1 : Nat} {xs : Nat → Int32} {L : Nat} : w0_P cT a8 a9 (ad0_ a8 a9 b t1 k1 v1) xs L 170 := ⟨_, rfl, fun _ _ h => h⟩
set_option maxRecDepth 100000 in
set_option maxHeartbeats 4000000 in
theorem w0_171 {cT : Nat → ClassId} {a8 a9 : Nat → Nat} {b t1 k1 v1 : Nat} {xs : Nat → Int32} {L : Nat} : w0_P cT a8 a9 (ad0_ a8 a9 b t1 k1 v1) xs L 171 := ⟨_, rfl, fun _ _ h => h⟩
set_option maxRecDepth 100000 in
set_option maxHeartbeats 4000000 in
theorem w0_172 {cT : Nat → ClassId} {a8 a9 : Nat → Nat} {b t1 k1 v1 : Nat} {xs : Nat → Int32} {L : Nat} : w0_P cT a8 a9 (ad0_ a8 a9 b t1 k1 v1) xs L 172 := ⟨_, rfl, fun _ _ h => h⟩
set_option maxRecDepth 100000 in
set_option maxHeartbeats 4000000 in
theorem w0_173 {cT : Nat → ClassId} {a8 a9 : Nat → Nat} {b t1 k1 v1 : Nat} {xs : Nat → Int32} {L : Nat} : w0_P cT a8 a9 (ad0_ a8 a9 b t1 k1 v1) xs L 173 := ⟨_, rfl, fun _ _ h => h⟩
set_option maxRecDepth 100000 in
set_option maxHeartbeats 4000000 in
theorem w0_174 {cT : Nat → ClassId} {a8 a9 : Nat → Nat} {b t1 k1 v1 : Nat} {xs : Nat → Int32} {L : Nat} : w0_P cT a8 a9 (ad0_ a8 a9 b t1 k1 v1) xs L 174 := ⟨_, rfl, fun _ _ h => h⟩
set_option maxRecDepth 100000 in
set_option maxHeartbeats 4000000 in
theorem w0_175 {cT : Nat → ClassId} {a8 a9 : Nat → Nat} {b t1 k1 v1 : Nat} {xs : Nat → Int32} {L : Nat} : w0_P cT a8 a9 (ad0_ a8 a9 b t1 k1 v1) xs L 175 := ⟨_, rfl, fun _ _ h => h⟩
set_option maxRecDepth 100000 in
set_option maxHeartbeats 4000000 in
theorem w0_176 {cT : Nat → ClassId} {a8 a9 : Nat → Nat} {b t1 k1 v1 : Nat} {xs : Nat → Int32} {L : Nat} : w0_P cT a8 a9 (ad0_ a8 a9 b t1 k1 v1) xs L 176 := ⟨_, rfl, fun _ _ h => h⟩
set_option maxRecDepth 100000 in
set_option maxHeartbeats 4000000 in
theorem w0_177 {cT : Nat → ClassId} {a8 a9 : Nat → Nat} {b t1 k1 v1 : Nat} {xs : Nat → Int32} {L : Nat} : w0_P cT a8 a9 (ad0_ a8 a9 b t1 k1 v1) xs L 177 := ⟨_, rfl, fun _ _ h => h⟩
theorem w0_A30 {cT : Nat → ClassId} {a8 a9 : Nat → Nat} {b t1 k1 v1 : Nat} {xs : Nat → Int32} {L : Nat} : ∀ a, a < 30 → w0_P cT a8 a9 (ad0_ a8 a9 b t1 k1 v1) xs L a := (kFs_ (kFs_ (kFs_ (kFs_ (kFs_ (kFs_ (kFs_ (kFs_ (kFs_ (kFs_ (kFs_ (kFs_ (kFs_ (kFs_ (kFs_ (kFs_ (kFs_ (kFs_ (kFs_ (kFs_ (kFs_ (kFs_ (kFs_ (kFs_ (kFs_ (kFs_ (kFs_ (kFs_ (kFs_ (kFs_ kF0_ w0_0) w0_1) w0_2) w0_3) w0_4) w0_5) w0_6) w0_7) w0_8) w0_9) w0_10) w0_11) w0_12) w0_13) w0_14) w0_15) w0_16) w0_17) w0_18) w0_19) w0_20) w0_21) w0_22) w0_23) w0_24) w0_25) w0_26) w0_27) w0_28) w0_29)
theorem w0_A60 {cT : Nat → ClassId} {a8 a9 : Nat → Nat} {b t1 k1 v1 : Nat} {xs : Nat → Int32} {L : Nat} : ∀ a, a < 60 → w0_P cT a8 a9 (ad0_ a8 a9 b t1 k1 v1) xs L a := (kFs_ (kFs_ (kFs_ (kFs_ (kFs_ (kFs_ (kFs_ (kFs_ (kFs_ (kFs_ (kFs_ (kFs_ (kFs_ (kFs_ (kFs_ (kFs_ (kFs_ (kFs_ (kFs_ (kFs_ (kFs_ (kFs_ (kFs_ (kFs_ (kFs_ (kFs_ (kFs_ (kFs_ (kFs_ (kFs_ (w0_A30) w0_30) w0_31) w0_32) w0_33) w0_34) w0_35) w0_36) w0_37) w0_38) w0_39) w0_40) w0_41) w0_42) w0_43) w0_44) w0_45) w0_46) w0_47) w0_48) w0_49) w0_50) w0_51) w0_52) w0_53) w0_54) w0_55) w0_56) w0_57) w0_58) w0_59)
theorem w0_A90 {cT : Nat → ClassId} {a8 a9 : Nat → Nat} {b t1 k1 v1 : Nat} {xs : Nat → Int32} {L : Nat} : ∀ a, a < 90 → w0_P cT a8 a9 (ad0_ a8 a9 b t1 k1 v1) xs L a := (kFs_ (kFs_ (kFs_ (kFs_ (kFs_ (kFs_ (kFs_ (kFs_ (kFs_ (kFs_ (kFs_ (kFs_ (kFs_ (kFs_ (kFs_ (kFs_ (kFs_ (kFs_ (kFs_ (kFs_ (kFs_ (kFs_ (kFs_ (kFs_ (kFs_ (kFs_ (kFs_ (kFs_ (kFs_ (kFs_ (w0_A60) w0_60) w0_61) w0_62) w0_63) w0_64) w0_65) w0_66) w0_67) w0_68) w0_69) w0_70) w0_71) w0_72) w0_73) w0_74) w0_75) w0_76) w0_77) w0_78) w0_79) w0_80) w0_81) w0_82) w0_83) w0_84) w0_85) w0_86) w0_87) w0_88) w0_89)
theorem w0_A120 {cT : Nat → ClassId} {a8 a9 : Nat → Nat} {b t1 k1 v1 : Nat} {xs : Nat → Int32} {L : Nat} : ∀ a, a < 120 → w0_P cT a8 a9 (ad0_ a8 a9 b t1 k1 v1) xs L a := (kFs_ (kFs_ (kFs_ (kFs_ (kFs_ (kFs_ (kFs_ (kFs_ (kFs_ (kFs_ (kFs_ (kFs_ (kFs_ (kFs_ (kFs_ (kFs_ (kFs_ (kFs_ (kFs_ (kFs_ (kFs_ (kFs_ (kFs_ (kFs_ (kFs_ (kFs_ (kFs_ (kFs_ (kFs_ (kFs_ (w0_A90) w0_90) w0_91) w0_92) w0_93) w0_94) w0_95) w0_96) w0_97) w0_98) w0_99) w0_100) w0_101) w0_102) w0_103) w0_104) w0_105) w0_106) w0_107) w0_108) w0_109) w0_110) w0_111) w0_112) w0_113) w0_114) w0_115) w0_116) w0_117) w0_118) w0_119)
theorem w0_A150 {cT : Nat → ClassId} {a8 a9 : Nat → Nat} {b t1 k1 v1 : Nat} {xs : Nat → Int32} {L : Nat} : ∀ a, a < 150 → w0_P cT a8 a9 (ad0_ a8 a9 b t1 k1 v1) xs L a := (kFs_ (kFs_ (kFs_ (kFs_ (kFs_ (kFs_ (kFs_ (kFs_ (kFs_ (kFs_ (kFs_ (kFs_ (kFs_ (kFs_ (kFs_ (kFs_ (kFs_ (kFs_ (kFs_ (kFs_ (kFs_ (kFs_ (kFs_ (kFs_ (kFs_ (kFs_ (kFs_ (kFs_ (kFs_ (kFs_ (w0_A120) w0_120) w0_121) w0_122) w0_123) w0_124) w0_125) w0_126) w0_127) w0_128) w0_129) w0_130) w0_131) w0_132) w0_133) w0_134) w0_135) w0_136) w0_137) w0_138) w0_139) w0_140) w0_141) w0_142) w0_143) w0_144) w0_145) w0_146) w0_147) w0_148) w0_149)
theorem w0_A178 {cT : Nat → ClassId} {a8 a9 : Nat → Nat} {b t1 k1 v1 : Nat} {xs : Nat → Int32} {L : Nat} : ∀ a, a < 178 → w0_P cT a8 a9 (ad0_ a8 a9 b t1 k1 v1) xs L a := (kFs_ (kFs_ (kFs_ (kFs_ (kFs_ (kFs_ (kFs_ (kFs_ (kFs_ (kFs_ (kFs_ (kFs_ (kFs_ (kFs_ (kFs_ (kFs_ (kFs_ (kFs_ (kFs_ (kFs_ (kFs_ (kFs_ (kFs_ (kFs_ (kFs_ (kFs_ (kFs_ (kFs_ (w0_A150) w0_150) w0_151) w0_152) w0_153) w0_154) w0_155) w0_156) w0_157) w0_158) w0_159) w0_160) w0_161) w0_162) w0_163) w0_164) w0_165) w0_166) w0_167) w0_168) w0_169) w0_170) w0_171) w0_172) w0_173) w0_174) w0_175) w0_176) w0_177)
