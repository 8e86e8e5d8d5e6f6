/-! the world of cells that a state of the abstract machine stands for -/
abbrev am_cl : List vw_C := [(RX0, TX0, 5), (RX1, TX1, 4), (RX2, TX2, 3), (RX3, TX3, 6), (RX4, TX4, 12), (RX5, TX5, 5), (RX6, TX6, 7), (RX7, TX7, 12), (RX8, TX8, 15), (RX9, TX9, 81)]
abbrev am_tys (cT : Nat → ClassId) : List (ClassId × FieldType) := [(cT 0, .int), (cT 1, .byte), (cT 2, .boolean), (cT 3, .long), (cT 4, .array .int), (cT 5, .array .long)]
def am_cell (ad : Nat → Nat) (cT : Nat → ClassId) (σ : am_S) (a : Nat) : va_E := match am_kd a with
  | (0, n) => .inl (cT 0, n, .inl (fun j => Int32.ofInt (σ.1 a j)))
  | (1, n) => .inl (cT 1, n, .inl (fun j => Int32.ofInt (σ.1 a j)))
  | (2, n) => .inl (cT 2, n, .inl (fun j => Int32.ofInt (σ.1 a j)))
  | (3, n) => .inl (cT 3, n, .inr (.inl (fun j => Int64.ofInt (σ.2.1 a j))))
  | (4, n) => .inl (cT 4, n, .inr (.inr (.inr (.inr (fun j => some (ad (a + 1 + j)))))))
  | (5, n) => .inl (cT 5, n, .inr (.inr (.inr (.inr (fun j => some (ad (a + 1 + j)))))))
  | (_, ci) => .inr (ci, (List.range (am_nf ci)).map (fun k => am_tr ad (am_fval σ a ci k)))
def am_world (ad : Nat → Nat) (cT : Nat → ClassId) (σ : am_S) : va_W := (List.range am_NC).map (fun a => (ad a, am_cell ad cT σ a))
def am_A (ad : Nat → Nat) : Nat → Prop := fun q => ∃ i, i < am_NC ∧ q = ad i
def am_oks (scr : (Nat → Int) × Nat) (σ : am_S) : Prop := (∀ a k, am_r32 (σ.1 a k)) ∧ (∀ a k, am_r64 (σ.2.1 a k)) ∧ (∀ k, am_r32 (σ.2.2.2.1 k)) ∧ σ.2.2.2.2 < 2147483648 ∧ σ.2.2.2 = scr
theorem am_world_at {ad : Nat → Nat} {cT : Nat → ClassId} {σ : am_S} {a : Nat} (h : a < am_NC) : (am_world ad cT σ)[a]? = some (ad a, am_cell ad cT σ a) := by
  unfold am_world
  rw [List.getElem?_map, List.getElem?_range h]
  rfl
theorem am_world_len (ad : Nat → Nat) (cT : Nat → ClassId) (σ : am_S) : (am_world ad cT σ).length = am_NC := by
  simp [am_world]
theorem am_world_set {ad : Nat → Nat} {cT : Nat → ClassId} {σ σ' : am_S} {a : Nat} (h : a < am_NC) {e : va_E} (he : am_cell ad cT σ' a = e) (ho : ∀ b, b ≠ a → am_cell ad cT σ' b = am_cell ad cT σ b) : (am_world ad cT σ).set a (ad a, e) = am_world ad cT σ' := by
  apply List.ext_getElem?
  intro i
  by_cases hi : i = a
  · subst hi
    rw [am_world_at h, he, List.getElem?_set_self (by rw [am_world_len]; exact h)]
  · rw [List.getElem?_set_ne (fun q => hi q.symm)]
    by_cases hl : i < am_NC
    · rw [am_world_at hl, am_world_at hl, ho i hi]
    · rw [List.getElem?_eq_none (by rw [am_world_len]; omega), List.getElem?_eq_none (by rw [am_world_len]; omega)]
theorem am_kd_lt {a : Nat} {t n : Nat} (h : am_kd a = (t, n)) (ht : t < 9) : a < am_NC := by
  by_cases hl : a < am_NC
  · exact hl
  · exfalso
    have h1 : am_kdL.length = am_NC := by decide +kernel
    have h2 : am_kd a = (9, 0) := by
      unfold am_kd
      rw [List.getElem?_eq_none (by omega)]
      rfl
    rw [h2] at h
    injection h with h3 h4
    omega
theorem am_up_same {α : Type} (f : Nat → α) (k : Nat) (v : α) : am_up f k v k = v := if_pos rfl
theorem am_up_ne {α : Type} {f : Nat → α} {k j : Nat} {v : α} (h : j ≠ k) : am_up f k v j = f j := if_neg h
/-- the cells are apart -/
theorem am_apart {ad : Nat → Nat} (hinj : ∀ i j, i < am_NC → j < am_NC → ad i = ad j → i = j) (cT : Nat → ClassId) (σ : am_S) : va_D (am_A ad) (am_world ad cT σ) := by
  have key : ∀ (k : Nat) (q : Nat × va_E), (am_world ad cT σ)[k]? = some q → k < am_NC ∧ q.1 = ad k := by
    intro k q h
    have hl : k < am_NC := by rw [← am_world_len ad cT σ]; exact (List.getElem?_eq_some_iff.mp h).1
    rw [am_world_at hl] at h
    cases h
    exact ⟨hl, rfl⟩
  refine ⟨fun i j x y hi hj hxy => ?_, fun k q h => ?_⟩
  · obtain ⟨a1, a2⟩ := key i x hi
    obtain ⟨b1, b2⟩ := key j y hj
    exact hinj i j a1 b1 (by rw [← a2, ← b2, hxy])
  · obtain ⟨a1, a2⟩ := key k q h
    exact ⟨k, a1, a2⟩
/-! numbers -/
theorem am_t32 {z : Int} (h : am_r32 z) : (Int32.ofInt z).toInt = z := Int32.toInt_ofInt_of_le (by have := h.1; simpa using this) (by have := h.2; simp; omega)
theorem am_t64 {z : Int} (h : am_r64 z) : (Int64.ofInt z).toInt = z := Int64.toInt_ofInt_of_le (by have := h.1; simpa using this) (by have := h.2; simp; omega)
theorem am_rI (x : Int32) : am_r32 x.toInt := ⟨by have := x.le_toInt; simpa using this, by have := x.toInt_lt; simp at this; omega⟩
theorem am_rJ (x : Int64) : am_r64 x.toInt := ⟨by have := x.le_toInt; simpa using this, by have := x.toInt_lt; simp at this; omega⟩
theorem am_lt32 {a b : Int} (ha : am_r32 a) (hb : am_r32 b) : Int32.ofInt a < Int32.ofInt b ↔ a < b := by
  rw [Int32.lt_iff_toInt_lt, am_t32 ha, am_t32 hb]
theorem am_le32 {a b : Int} (ha : am_r32 a) (hb : am_r32 b) : Int32.ofInt a ≤ Int32.ofInt b ↔ a ≤ b := by
  rw [Int32.le_iff_toInt_le, am_t32 ha, am_t32 hb]
theorem am_eq32 {a b : Int} (ha : am_r32 a) (hb : am_r32 b) : Int32.ofInt a = Int32.ofInt b ↔ a = b := by
  rw [← Int32.toInt_inj, am_t32 ha, am_t32 hb]
theorem am_r0 : am_r32 0 := ⟨by omega, by omega⟩
theorem am_clamp {j : Int} (h : am_r32 j) : (Int32.ofInt j).toNatClampNeg = j.toNat := by
  show (Int32.ofInt j).toInt.toNat = j.toNat
  rw [am_t32 h]
theorem am_vin {j : Int} {n : Nat} (h : am_r32 j) (h0 : 0 ≤ j) (h1 : j < (n : Int)) : vp_in (Int32.ofInt j) n := by
  rw [vp_in_iff, am_t32 h]
  exact ⟨h0, h1⟩
theorem am_up_of (f : Nat → Int) (k : Nat) (z : Int) : (fun j => Int32.ofInt (am_up f k z j)) = upd (fun j => Int32.ofInt (f j)) k (Int32.ofInt z) := by
  funext j
  unfold am_up upd
  by_cases h : j = k
  · rw [if_pos h, if_pos h]
  · rw [if_neg h, if_neg h]
theorem am_upL_of (f : Nat → Int) (k : Nat) (z : Int) : (fun j => Int64.ofInt (am_up f k z j)) = vp_updL (fun j => Int64.ofInt (f j)) k (Int64.ofInt z) := by
  funext j
  unfold am_up vp_updL
  by_cases h : j = k
  · rw [if_pos h, if_pos h]
  · rw [if_neg h, if_neg h]
/-! the locals -/
def am_asc (ad : Nat → Nat) (L : List (Option am_V)) : List (Nat × Value) := (List.range L.length).filterMap (fun i => match L[i]? with
  | some (some v) => some (i, am_tr ad v)
  | _ => none)
theorem am_asc_mem {ad : Nat → Nat} {L : List (Option am_V)} {q : Nat × Value} : q ∈ am_asc ad L ↔ ∃ v, L[q.1]? = some (some v) ∧ q.2 = am_tr ad v := by
  unfold am_asc
  rw [List.mem_filterMap]
  constructor
  · rintro ⟨i, hi, h⟩
    split at h
    next v hv =>
      cases h
      exact ⟨v, hv, rfl⟩
    next => cases h
  · rintro ⟨v, h1, h2⟩
    refine ⟨q.1, List.mem_range.mpr (List.getElem?_eq_some_iff.mp h1).1, ?_⟩
    rw [h1]
    show some (q.1, am_tr ad v) = some q
    rw [← h2]
def am_lrep (ad : Nat → Nat) (ls : Array Slot) (L : List (Option am_V)) : Prop := lv_has ls L.length (am_asc ad L)
theorem am_lrep_at {ad : Nat → Nat} {ls : Array Slot} {L : List (Option am_V)} (h : am_lrep ad ls L) {k : Nat} {v : am_V} (hk : L[k]? = some (some v)) : ls[k]? = some (.val (am_tr ad v)) :=
  h.2.2 (k, am_tr ad v) (am_asc_mem.mpr ⟨v, hk, rfl⟩)
theorem am_cat_tr (ad : Nat → Nat) (v : am_V) : (am_tr ad v).category = am_cat v := by
  rcases v with z | z | _ | a <;> rfl
theorem am_lrep_set {ad : Nat → Nat} {ls : Array Slot} {L : List (Option am_V)} {k : Nat} {v : am_V} {w : Value} (hw : am_tr ad v = w) (hk : am_stOK L k = true) (h : lv_has ls L.length ((k, w) :: (am_asc ad L).filter (fun q => !(q.1 == k) && !(q.1 + 1 == k && q.2.category == 2)))) : am_lrep ad ls (L.set k (some v)) := by
  unfold am_stOK at hk
  rw [Bool.and_eq_true] at hk
  obtain ⟨h1, h2⟩ := hk
  have hkl : k < L.length := Nat.lt_of_succ_le (by simpa [Nat.blt] using h1)
  refine ⟨by rw [List.length_set]; exact h.1, h.2.1, fun q hq => ?_⟩
  obtain ⟨u, hu, hv⟩ := am_asc_mem.mp hq
  by_cases e : q.1 = k
  · rw [e, List.getElem?_set_self hkl] at hu
    cases hu
    have h9 := h.2.2 (k, w) List.mem_cons_self
    rw [e, hv, hw]
    exact h9
  · rw [List.getElem?_set_ne (fun x => e x.symm)] at hu
    refine h.2.2 q (List.mem_cons_of_mem _ (List.mem_filter.mpr ⟨am_asc_mem.mpr ⟨u, hu, hv⟩, ?_⟩))
    have e1 : (q.1 == k) = false := by simpa using e
    rw [e1]
    by_cases e2 : q.1 + 1 = k
    · subst e2
      rw [hv, am_cat_tr]
      have h2 : (match L[q.1]? with
        | some (some (.inr (.inl _))) => false
        | _ => true) = true := h2
      rw [hu] at h2
      rcases u with z | z | _ | a <;> first | (cases h2; done) | simp [am_cat]
    · have e3 : (q.1 + 1 == k) = false := by simpa using e2
      rw [e3]
      rfl
theorem am_lay_args (ad : Nat → Nat) : ∀ (as : List am_V) (b i : Nat) (v : am_V), (am_lay as)[i]? = some (some v) → (b + i, am_tr ad v) ∈ lv_args b (as.map (am_tr ad))
  | [], b, i, v, h => by simp [am_lay] at h
  | u :: as, b, i, v, h => by
    have ih := am_lay_args ad as
    by_cases hc : ∃ z, u = am_J z
    · obtain ⟨z, rfl⟩ := hc
      show (b + i, am_tr ad v) ∈ (b, Value.long (Int64.ofInt z)) :: lv_args (b + 2) (as.map (am_tr ad))
      have h' : (some (am_J z) :: none :: am_lay as)[i]? = some (some v) := h
      match i, h' with
      | 0, h' => cases h'; exact List.mem_cons_self
      | 1, h' => cases h'
      | i + 2, h' =>
        have := ih (b + 2) i v h'
        rw [show b + (i + 2) = b + 2 + i by omega]
        exact List.mem_cons_of_mem _ this
    · have h' : (some u :: am_lay as)[i]? = some (some v) := by
        rcases u with z | z | r
        · exact h
        · exact absurd ⟨z, rfl⟩ hc
        · exact h
      have e : lv_args b ((u :: as).map (am_tr ad)) = (b, am_tr ad u) :: lv_args (b + 1) (as.map (am_tr ad)) := by
        rcases u with z | z | _ | a
        · rfl
        · exact absurd ⟨z, rfl⟩ hc
        · rfl
        · rfl
      rw [e]
      match i, h' with
      | 0, h' => cases h'; exact List.mem_cons_self
      | i + 1, h' =>
        have := ih (b + 1) i v h'
        rw [show b + (i + 1) = b + 1 + i by omega]
        exact List.mem_cons_of_mem _ this
theorem am_lay_len (ad : Nat → Nat) : ∀ as : List am_V, (lg_sl (as.map (am_tr ad))).length = (am_lay as).length
  | [] => rfl
  | u :: as => by
    have ih := am_lay_len ad as
    unfold lg_sl at ih ⊢
    rw [List.map_cons, List.flatMap_cons, List.length_append, ih]
    rcases u with z | z | _ | a
    · show 1 + _ = (am_lay as).length + 1
      omega
    · show 2 + _ = (am_lay as).length + 1 + 1
      omega
    · show 1 + _ = (am_lay as).length + 1
      omega
    · show 1 + _ = (am_lay as).length + 1
      omega
theorem am_lrep_entry (ad : Nat → Nat) (as : List am_V) {n : Nat} (h : (am_lay as).length ≤ n) : am_lrep ad ((lg_sl (as.map (am_tr ad)) ++ List.replicate (n - (lg_sl (as.map (am_tr ad))).length) Slot.unset).toArray) (am_pad n (am_lay as)) := by
  have h1 := lv_entry (as.map (am_tr ad)) (n := n) (by rw [am_lay_len]; exact h)
  have hl : (am_pad n (am_lay as)).length = n := by
    unfold am_pad
    rw [List.length_append, List.length_replicate]
    omega
  refine ⟨by rw [hl]; exact h1.1, h1.2.1, fun q hq => ?_⟩
  obtain ⟨v, hv, e⟩ := am_asc_mem.mp hq
  have hv2 : (am_lay as)[q.1]? = some (some v) := by
    unfold am_pad at hv
    by_cases hi : q.1 < (am_lay as).length
    · rwa [List.getElem?_append_left hi] at hv
    · rw [List.getElem?_append_right (by omega)] at hv
      have := List.eq_of_mem_replicate (List.mem_of_getElem? hv)
      cases this
  have := am_lay_args ad as 0 q.1 v hv2
  rw [Nat.zero_add, ← e] at this
  exact h1.2.2 q this
