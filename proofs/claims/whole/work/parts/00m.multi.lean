/-! new T[n][m]: an own walk of the machine's instruction, over nothing of Shelf42 -/
section MR
variable {p : Program} {l : Launch} {e : Env} {R : Room} {s : State} {m : MethodId} {args : Array Value} {below : List Frame} {meth : Method} {c : Code} {T U : State} {locs : List Loc} {cells slots : Nat}
/-- a row; the array over the rows behind i of them, the first at b; the state behind i rows, in one closed form -/
def mr_row (cy : ClassId) (K : Nat) (v : Value) : Cell := { cls := cy, slots := Array.replicate K v, vm := .none }
def mr_top (cA : ClassId) (N b i : Nat) : Cell := arrV cA N (fun j => if j < i then .ref (b + j) else .null)
def mr_st (U : State) (cA cy : ClassId) (N K : Nat) (v : Value) (i : Nat) : State := { U with heap := U.heap.push (mr_top cA N (U.heap.size + 1) i) ++ Array.replicate i (mr_row cy K v), slotsUsed := U.slotsUsed + N + i * K }
theorem mr_row_size (cy : ClassId) (K : Nat) (v : Value) : (mr_row cy K v).slots.size = K := Array.size_replicate
theorem mr_top0 (cA : ClassId) (N b : Nat) : ({ cls := cA, slots := Array.replicate N .null, vm := .none } : Cell) = mr_top cA N b 0 := by
  rw [arrV_new]
  exact congrArg (arrV cA N) (funext fun j => (if_neg (Nat.not_lt_zero j)).symm)
theorem mr_topS (cA : ClassId) (N b i : Nat) : (mr_top cA N b i).setSlot i (.ref (b + i)) = mr_top cA N b (i + 1) := by
  unfold mr_top
  rw [arrV_store]
  refine congrArg (arrV cA N) (funext fun j => ?_)
  unfold updV
  by_cases h : j = i
  · subst h
    rw [if_pos rfl, if_pos (Nat.lt_succ_self j)]
  · rw [if_neg h]
    show (if j < i then Value.ref (b + j) else Value.null) = _
    by_cases h2 : j < i
    · rw [if_pos h2, if_pos (by omega)]
    · rw [if_neg h2, if_neg (by omega)]
theorem mr_heap {α : Type} (h : Array α) (a b r : α) (i : Nat) : ((h.push a ++ Array.replicate i r).push r).setIfInBounds h.size b = h.push b ++ Array.replicate (i + 1) r := by
  apply Array.ext'
  rw [Array.toList_setIfInBounds, Array.toList_push, Array.toList_append, Array.toList_append, Array.toList_push, Array.toList_push, Array.toList_replicate, Array.toList_replicate, List.replicate_succ']
  simp only [List.append_assoc]
  rw [List.set_append_right _ _ (by rw [Array.length_toList]; exact Nat.le_refl _), Array.length_toList, Nat.sub_self]
  rfl
theorem mr_st0 (cA cy : ClassId) (N K : Nat) (v : Value) : U.pushCell { cls := cA, slots := Array.replicate N .null, vm := .none } = mr_st U cA cy N K v 0 := by
  rw [mr_top0 cA N (U.heap.size + 1)]
  have h : (mr_top cA N (U.heap.size + 1) 0).slots.size = N := arrV_size _ _ _
  unfold mr_st State.pushCell
  rw [h, Array.replicate_zero, Array.append_empty, Nat.zero_mul]
  rfl
theorem mr_stS (cA cy : ClassId) (N K : Nat) (v : Value) (i : Nat) : ((mr_st U cA cy N K v i).pushCell (mr_row cy K v)).setCell U.heap.size (mr_top cA N (U.heap.size + 1) (i + 1)) = mr_st U cA cy N K v (i + 1) := by
  unfold mr_st State.setCell State.pushCell
  rw [mr_row_size, Nat.succ_mul, ← Nat.add_assoc]
  show ({ U with heap := ((U.heap.push _ ++ Array.replicate i _).push _).setIfInBounds U.heap.size _, slotsUsed := _ } : State) = _
  rw [mr_heap]
theorem mr_size (cA cy : ClassId) (N K : Nat) (v : Value) (i : Nat) : (mr_st U cA cy N K v i).heap.size = U.heap.size + 1 + i := by
  show (U.heap.push _ ++ Array.replicate i _).size = _
  rw [Array.size_append, Array.size_push, Array.size_replicate]
theorem mr_atTop (cA cy : ClassId) (N K : Nat) (v : Value) (i : Nat) : (mr_st U cA cy N K v i).heap[U.heap.size]? = some (mr_top cA N (U.heap.size + 1) i) := by
  show (U.heap.push _ ++ Array.replicate i _)[U.heap.size]? = _
  rw [Array.getElem?_append_left (by rw [Array.size_push]; exact Nat.lt_succ_self _), Array.getElem?_push_size]
theorem mr_atOld (cA cy : ClassId) (N K : Nat) (v : Value) (i : Nat) {x : Nat} (hx : x < U.heap.size) : (mr_st U cA cy N K v i).heap[x]? = U.heap[x]? := by
  show (U.heap.push _ ++ Array.replicate i _)[x]? = _
  rw [Array.getElem?_append_left (by rw [Array.size_push]; omega), Array.getElem?_push_lt hx, Array.getElem?_eq_getElem hx]
theorem mr_atRow (cA cy : ClassId) (N K : Nat) (v : Value) (i : Nat) {j : Nat} (hj : j < i) : (mr_st U cA cy N K v i).heap[U.heap.size + 1 + j]? = some (mr_row cy K v) := by
  show (U.heap.push _ ++ Array.replicate i _)[U.heap.size + 1 + j]? = _
  rw [Array.getElem?_append_right (by rw [Array.size_push]; omega), Array.size_push, Nat.add_sub_cancel_left, Array.getElem?_replicate, if_pos hj]
theorem mr_stand (X : Stand p l e R s m args below meth c T locs cells slots) (cA cy : ClassId) (N K : Nat) (v : Value) : ∀ i : Nat, Stand p l e R s m args below meth c (mr_st T cA cy N K v i) locs (cells + 1 + i) (slots + N + i * K)
  | 0 => by
    have h := X.pushed { cls := cA, slots := Array.replicate N .null, vm := .none }
    rw [mr_st0 cA cy N K v] at h
    have e1 : ({ cls := cA, slots := Array.replicate N Value.null, vm := .none } : Cell).slots.size = N := Array.size_replicate
    rw [e1] at h
    rw [Nat.zero_mul]
    exact h
  | i + 1 => by
    have h := (mr_stand X cA cy N K v i).pushed (mr_row cy K v)
    have ht : ((mr_st T cA cy N K v i).pushCell (mr_row cy K v)).heap[T.heap.size]? = some (mr_top cA N (T.heap.size + 1) i) := by
      have hlt : T.heap.size < (mr_st T cA cy N K v i).heap.size := by rw [mr_size]; omega
      rw [State.heap_pushCell_of_lt (h := hlt)]
      exact mr_atTop cA cy N K v i
    have h2 := h.stored ht i (.ref (T.heap.size + 1 + i))
    rw [mr_topS, mr_stS, mr_row_size] at h2
    have h3 := h2.dropFresh (fun x hx => by rw [List.mem_singleton.mp hx]; exact X.heapGrown)
    rw [Nat.succ_mul, ← Nat.add_assoc (slots + N)]
    exact h3
theorem mr_loop {E : CtlPost} {B : Nat → PUnit → Sem (ForInStep PUnit)} {S : Nat → State} {N : Nat}
    (hB : ∀ i, i < N → ∀ (d : Bool) (acts : List Action) (Q : ForInStep PUnit → Pre), (∀ d' acts', Q (.yield PUnit.unit) d' acts' (S (i + 1))) → wp (B i PUnit.unit) Q E e d acts (S i)) :
    ∀ (r i : Nat), i + r = N → ∀ (d : Bool) (acts : List Action) (Q : PUnit → Pre), (∀ d' acts', Q PUnit.unit d' acts' (S N)) → wp (forIn (List.range' i r 1) PUnit.unit B) Q E e d acts (S i)
  | 0, i, h, d, acts, Q, hq => by
    have e : i = N := h
    subst e
    rw [List.range'_zero, List.forIn_nil, wp_pure']
    exact hq d acts
  | r + 1, i, h, d, acts, Q, hq => by
    rw [List.range'_succ, List.forIn_cons, wp_bind']
    exact hB i (by omega) d acts _ (fun d' acts' => mr_loop hB r (i + 1) (by omega) d' acts' Q hq)
theorem mr_make {E : CtlPost} {d : Bool} {acts : List Action} {cy cc : ClassId} {kc : Class} {ty : FieldType} {k : Int32} (hkc : U.vm.classes[cy]? = some kc) (hkind : kc.kind = .array cc ty) (hk : ¬ k < 0)
    (hl : ¬ k.toNatClampNeg > e.platform.arrayLengthLimit) (hh : ¬ k.toNatClampNeg * componentBytes ty > e.platform.maxHeapBytes) (hf : fits ty (defaultValue ty) = true)
    (h1 : U.heap.size < e.platform.maxCells) (h2 : U.slotsUsed + k.toNatClampNeg ≤ e.platform.maxSlots) {Q : Addr → Pre} (hq : ∀ acts', Q U.heap.size d acts' (U.pushCell (mr_row cy k.toNatClampNeg (defaultValue ty)))) :
    wp (multianewarray.make cy [k]) Q E e d acts U := by
  rw [multianewarray.make]
  simp only [wp_bind', W.ite, hk, if_false, wp_pure', W.theClass, hkc, hkind, Option.some.injEq, exists_eq_left']
  exact W.newArray_of hkc hkind hl hh h1 h2 hf hq
theorem mr_over {t : FieldType} {o : Option Outcome} {first : State} {idx : List Nat} (h : (Cond.arrayOver (.array t)).holds args first o s idx = true) :
    ∃ (cA cy : ClassId) (k : Class), s.vm.findClass ("[" ++ (FieldType.array t).toString) = some cA ∧ s.vm.findClass (FieldType.array t).toString = some cy ∧ s.vm.classes[cA]? = some k ∧ k.kind = .array cy (.array t) := by
  simp only [Cond.holds, Cond.value, beq_iff_eq] at h
  obtain ⟨cy, hy, u1⟩ := Option.bind_eq_some_iff.mp h
  obtain ⟨cA, hi, u2⟩ := Option.bind_eq_some_iff.mp u1
  obtain ⟨k, hk, u3⟩ := Option.map_eq_some_iff.mp u2
  obtain ⟨hlt, hp, -⟩ := Array.findIdx?_eq_some_iff_getElem.mp hi
  have e1 : s.vm.classes[cA] = k := (Array.getElem?_eq_some_iff.mp hk).2
  rw [e1] at hp
  clear h u1 u2
  generalize hK : k.kind = K at u3 hp
  cases K with
  | array a b =>
    simp only [Bool.and_eq_true, decide_eq_true_eq] at u3
    have e2 : a = cy := eq_of_beq hp
    subst e2
    obtain ⟨h1, h2⟩ := u3
    subst h1
    exact ⟨cA, a, k, h2, hy, hk, hK⟩
  | _ => cases hp
theorem mr_go (X : Stand p l e R s m args below meth c T locs cells slots) (hexec : p.tables.exec = Jvm.exec) {own : String} {index : Nat} {ty : FieldType} (hown : s.vm.findClass own = some m.cls) (hclink : (Cond.classLink own index ("[" ++ (FieldType.array ty).toString)).before args s = true)
    (hover : (Cond.arrayOver (.array ty)).before args s = true) (harr : (Cond.arrayClass ty).before args s = true) {g : JFrame} (hg : g.method = m) (hdg : decode c.code g.pc = .ok (.multianewarray index 2, 4)) {n k : Int32} {rest : List Value} (hstack : g.stack = .int k :: .int n :: rest) (hn : ¬ n < 0) (hk : ¬ k < 0)
    (hb1 : n.toNatClampNeg * 4 ≤ 536870912) (hb2 : k.toNatClampNeg * componentBytes ty ≤ 536870912) (hb3 : k.toNatClampNeg ≤ 536870912) (hdf : fits ty (defaultValue ty) = true) (hcells : cells + (1 + n.toNatClampNeg) ≤ R.cells) (hslots : slots + (n.toNatClampNeg + n.toNatClampNeg * k.toNatClampNeg) ≤ R.slots) :
    ∃ (vm₁ : Vm) (cA cy : ClassId), s.vm.findClass ("[" ++ (FieldType.array ty).toString) = some cA ∧ s.vm.findClass (FieldType.array ty).toString = some cy ∧
      Stand p l e R s m args below meth c (mr_st (T.setVm vm₁) cA cy n.toNatClampNeg k.toNatClampNeg (defaultValue ty) n.toNatClampNeg) locs (cells + 1 + n.toNatClampNeg) (slots + n.toNatClampNeg + n.toNatClampNeg * k.toNatClampNeg) ∧
      ∀ target, Steps p.tables e below ((mr_st (T.setVm vm₁) cA cy n.toNatClampNeg k.toNatClampNeg (defaultValue ty) n.toNatClampNeg).setTop { g with pc := g.pc + 4, stack := .ref T.heap.size :: rest }) target → Steps p.tables e below (T.setTop g) target := by
  subst hg
  obtain ⟨cA, cy, kA, hA, hy, hkA, hkindA⟩ := mr_over hover
  obtain ⟨cy', kC, cc, hy', hkC, hkindC⟩ := Cond.arrayClass_spec harr
  have ey : cy' = cy := Option.some.inj (hy'.symm.trans hy)
  subst ey
  obtain ⟨c0, hc0, hcl⟩ := Cond.classLink_spec hown hclink e.platform (by rw [X.admits.platform])
  cases hA.symm.trans hc0
  obtain ⟨hg₁, hW, -⟩ := State.classEntry (e := e) X.warmed hcl
  generalize T.vm.noted g.method.cls index (.cls cA) = vm₁ at hg₁ hW
  obtain ⟨kA₁, hkA₁, heA⟩ := hW.alike.2.2 _ _ hkA
  obtain ⟨kC₁, hkC₁, heC⟩ := hW.alike.2.2 _ _ hkC
  have hkA₂ : kA₁.kind = .array cy' (.array ty) := by rw [heA]; exact hkindA
  have hkC₂ : kC₁.kind = .array cc ty := by rw [heC]; exact hkindC
  obtain ⟨hr1, hr2⟩ := X.roomAbove hcells hslots
  have XF := mr_stand (X.noted hW) cA cy' n.toNatClampNeg k.toNatClampNeg (defaultValue ty) n.toNatClampNeg
  refine ⟨vm₁, cA, cy', hA, hy, XF, fun target hrest => ?_⟩
  have hl1 : ¬ n.toNatClampNeg > e.platform.arrayLengthLimit := by rw [Launch.admits_arrayLengthLimit X.admits]; omega
  have hl2 : ¬ k.toNatClampNeg > e.platform.arrayLengthLimit := by rw [Launch.admits_arrayLengthLimit X.admits]; omega
  have hh1 : ¬ n.toNatClampNeg * componentBytes (.array ty) > e.platform.maxHeapBytes := by
    rw [Launch.admits_maxHeapBytes X.admits]
    show ¬ n.toNatClampNeg * 4 > 536870912
    omega
  have hh2 : ¬ k.toNatClampNeg * componentBytes ty > e.platform.maxHeapBytes := by rw [Launch.admits_maxHeapBytes X.admits]; omega
  have hfind : ([k].find? (· < 0)) = none := by simp [hk]
  generalize hU : T.setVm vm₁ = U at XF hrest
  have hUt : U.topJava?.isSome := by rw [← hU]; exact (X.noted hW).here.top
  have hUv : U.vm = vm₁ := by rw [← hU]; rfl
  have hUh : U.heap.size = T.heap.size := by rw [← hU]; rfl
  have hUs : U.slotsUsed = T.slotsUsed := by rw [← hU]; rfl
  have hrow : ∀ (E : CtlPost) (f : JFrame) (i : Nat), i < n.toNatClampNeg → ∀ (d : Bool) (acts : List Action) (Q : ForInStep PUnit → Pre),
      (∀ d' acts', Q (.yield PUnit.unit) d' acts' ((mr_st U cA cy' n.toNatClampNeg k.toNatClampNeg (defaultValue ty) (i + 1)).setTop f)) →
      wp (do Jvm.writeLoc U.heap.size i (.ref (← multianewarray.make cy' [k])); Pure.pure (ForInStep.yield PUnit.unit)) Q E e d acts ((mr_st U cA cy' n.toNatClampNeg k.toNatClampNeg (defaultValue ty) i).setTop f) := by
    intro E f i hi d acts Q hq
    have hmul : i * k.toNatClampNeg + k.toNatClampNeg ≤ n.toNatClampNeg * k.toNatClampNeg := by
      have h9 := Nat.mul_le_mul_right k.toNatClampNeg (show i + 1 ≤ n.toNatClampNeg from hi)
      rw [Nat.succ_mul] at h9
      exact h9
    rw [wp_bind']
    refine mr_make (by show U.vm.classes[cy']? = some kC₁; rw [hUv]; exact hkC₁) hkC₂ hk hl2 hh2 hdf (by show (mr_st U cA cy' _ _ _ i).heap.size < _; rw [mr_size]; omega) (by show U.slotsUsed + _ + _ + _ ≤ _; omega) (fun a1 => ?_)
    rw [State.heap_setTop, State.pushCell_setTop, wp_bind', W.writeLoc]
    refine ⟨mr_top cA n.toNatClampNeg (U.heap.size + 1) i, ?_, ?_, ?_, ?_, ?_⟩
    · show ((mr_st U cA cy' _ _ _ i).pushCell _).heap[U.heap.size]? = _
      have hlt : U.heap.size < (mr_st U cA cy' n.toNatClampNeg k.toNatClampNeg (defaultValue ty) i).heap.size := by rw [mr_size]; omega
      rw [State.heap_pushCell_of_lt (h := hlt)]
      exact mr_atTop _ _ _ _ _ _
    · show Cell.vm _ ≠ VmData.unknown
      unfold mr_top arrV
      simp
    · have h8 : (mr_top cA n.toNatClampNeg (U.heap.size + 1) i).slots.size = n.toNatClampNeg := arrV_size _ _ _
      rw [h8]
      exact hi
    · have h7 : U.vm.classes[cA]? = some kA₁ := by rw [hUv]; exact hkA₁
      have h6 : State.slotType? (((mr_st U cA cy' n.toNatClampNeg k.toNatClampNeg (defaultValue ty) i).pushCell (mr_row cy' k.toNatClampNeg (defaultValue ty))).setTop f) cA .none i = some (.array ty) := by
        show (U.vm.classes[cA]?).bind _ = _
        rw [h7]
        show (match kA₁.kind with | .array _ t => some t | _ => kA₁.instanceTypes[i]?) = _
        rw [hkA₂]
      show (match State.slotType? (((mr_st U cA cy' n.toNatClampNeg k.toNatClampNeg (defaultValue ty) i).pushCell (mr_row cy' k.toNatClampNeg (defaultValue ty))).setTop f) cA .none i with | some t => fits t _ | none => false) = true
      rw [h6]
      rfl
    · rw [mr_size, mr_topS, State.setCell_setTop, mr_stS, wp_pure']
      exact hq _ _
  jvm_step X.here [hexec, hdg]
  simp only [multianewarray.sem, wp_bind', W.resolveClassAt_links (State.method?_setTop _ X.here.top) hg₁]
  rw [W.popN, if_neg (by decide)]
  refine ⟨g, State.topJava?_setTop' (s := T.setVm vm₁) g X.here.top, [.int n, .int k], rest, rfl, hstack, ?_⟩
  have e9 : ((T.setTop g).setVm vm₁).setTop { g with stack := rest } = U.setTop { g with stack := rest } := by
    rw [← hU]
    show ((T.setVm vm₁).setTop _).setTop _ = _
    rw [State.setTop_setTop]
  rw [e9]
  simp only [List.mapM_cons, List.mapM_nil, wp_bind', wp_pure']
  rw [multianewarray.make]
  simp only [wp_bind', W.ite, hn, if_false, wp_pure', W.theClass, State.vm_setTop, hUv, hkA₁, hkA₂, Option.some.injEq, exists_eq_left']
  refine W.newArray_of (by show U.vm.classes[cA]? = some kA₁; rw [hUv]; exact hkA₁) hkA₂ hl1 hh1 (by show U.heap.size < _; omega) (by show U.slotsUsed + _ ≤ _; omega) rfl (fun a1 => ?_)
  simp only [hfind]
  rw [ite_self, wp_bind', Std.Legacy.Range.forIn_eq_forIn_range', State.heap_setTop, State.pushCell_setTop, mr_st0 cA cy' n.toNatClampNeg k.toNatClampNeg (defaultValue ty)]
  have hsz : ([:n.toNatClampNeg] : Std.Legacy.Range).size = n.toNatClampNeg := by simp [Std.Legacy.Range.size]
  rw [hsz]
  refine mr_loop (S := fun i => (mr_st U cA cy' n.toNatClampNeg k.toNatClampNeg (defaultValue ty) i).setTop _) (N := n.toNatClampNeg) (fun i hi => hrow _ _ i hi) n.toNatClampNeg 0 (Nat.zero_add _) _ _ _ (fun d' acts' => ?_)
  simp only [wp_pure', wp_bind', W.mark, W.pushRef, State.topJava?_setTop' _ XF.here.top, Option.some.injEq, exists_eq_left', State.setTop_setTop]
  intro acts
  simp [jvm, XF.here.top]
  rw [hUh]
  exact hrest
end MR
