/-! making: what a constructor is given and what it leaves -/
def kM_ (t : FieldType) (U : State) : Prop := (Cond.arrayOver (.array t)).before #[] U = true
theorem kM_same {t : FieldType} {A : Array Value} {u U : State} (hv : U.vm = u.vm) (h : (Cond.arrayOver (.array t)).before A u = true) : kM_ t U := by
  unfold kM_
  simp only [Cond.before, Cond.holds, Cond.value, hv] at h ⊢
  exact h
theorem kM_moved {t : FieldType} {u U : State} (hvm : u.vm.Alike U.vm) (h : kM_ t u) : kM_ t U := by
  have h1 : (Cond.arrayOver (.array t)).before #[] (u.setVm U.vm) = true := by rw [Cond.arrayOver_setVmC hvm (.array t)]; exact h
  exact kM_same (u := u.setVm U.vm) rfl h1
theorem kM_use {t : FieldType} {A : Array Value} {U : State} (h : kM_ t U) : (Cond.arrayOver (.array t)).before A U = true := by
  unfold kM_ at h
  simp only [Cond.before, Cond.holds, Cond.value] at h ⊢
  exact h
theorem arrV_ext {c : ClassId} {N : Nat} {f g : Nat → Value} (h : ∀ j, j < N → f j = g j) : arrV c N f = arrV c N g := by
  have e : Array.ofFn (n := N) (fun j => f j.val) = Array.ofFn (n := N) (fun j => g j.val) := by
    congr 1
    funext j
    exact h j.val j.isLt
  unfold arrV
  rw [e]
theorem gr_ {N : Nat} {r : Nat → Nat} {j : Nat} (hj : j < N) : ((List.range N).map r).getD j 0 = r j := by
  rw [List.getD_eq_getElem?_getD, List.getElem?_map, List.getElem?_range hj]
  rfl
theorem ow_top (cA : ClassId) (N b : Nat) : mr_top cA N b N = arrV cA N (fun j => va_rf (some (((List.range N).map (fun i => b + i)).getD j 0))) := by
  unfold mr_top
  refine arrV_ext (fun j hj => ?_)
  rw [if_pos hj, gr_ hj]
  rfl
def kC_ (cT : Nat → ClassId) (D : va_G) (U : State) : Prop := va_K D am_cl (am_tys cT) U ∧ kM_ .int U ∧ kM_ .long U ∧ va_Nw (.methodLinkNest RX8 19 yX7_init "FortyLetters") U ∧ va_Nw (.methodLinkNest RX7 45 yX0_init "FortyLetters") U ∧ va_Nw (.methodLinkNest RX8 47 yX1_init "FortyLetters") U ∧ va_Nw (.methodLinkNest RX8 78 yX6_init "FortyLetters") U
theorem kC_.go {cT : Nat → ClassId} {D : va_G} {s U : State} (hW : s.WarmedH U.vm) (h : kC_ cT D s) : kC_ cT D U := by
  obtain ⟨h1, h2, h3, h4, h5, h6, h7⟩ := h
  exact ⟨h1.moved hW.alike, kM_moved hW.alike h2, kM_moved hW.alike h3, h4.warmM hW, h5.warmM hW, h6.warmM hW, h7.warmM hW⟩
theorem kC_.same {cT : Nat → ClassId} {D : va_G} {s U : State} (hv : U.vm = s.vm) (h : kC_ cT D s) : kC_ cT D U := by
  obtain ⟨h1, h2, h3, h4, h5, h6, h7⟩ := h
  exact ⟨h1.moved (by rw [hv]; exact Vm.Alike.refl _), kM_same hv h2, kM_same hv h3, h4.same rfl hv.symm, h5.same rfl hv.symm, h6.same rfl hv.symm, h7.same rfl hv.symm⟩
def fr0 (h0 sz : Nat) : Nat → Prop := fun q => q = h0 ∨ sz ≤ q
def kP_ (cT : Nat → ClassId) (D : va_G) (h0 sz : Nat) (e : va_E) (U : State) : Prop := U.heap.size = sz ∧ va_P D am_cl [(h0, e)] U.heap ∧ kC_ cT D U
def kQ_ (D : va_G) (Wf : (Nat → Nat) → va_W) (h0 sz : Nat) : Array Value → State → Outcome → State → Prop := fun _ st oc t => (oc = .returned none ∧ ∃ ad : Nat → Nat, ad 0 = h0 ∧ va_P D am_cl (Wf ad) t.heap ∧ va_D (fr0 h0 sz) (Wf ad)) ∧ va_F (fr0 h0 sz) st t
def kR_ (d mc ms : Nat) : Room := { frames := d, cells := mc, slots := ms, locals := 60 * d }
theorem kP_blind {cT : Nat → ClassId} {D : va_G} {h0 sz : Nat} {e : va_E} (as : List Value) : FrameBlind (va_Pc as (kP_ cT D h0 sz e)) := by
  intro a U g mk h
  obtain ⟨h1, h2, h3, h4⟩ := h
  exact ⟨h1, h2, h3, kC_.same (s := U) (U := U.calling g mk a) rfl h4⟩
theorem d1_ {h0 sz : Nat} {e : va_E} : va_D (fr0 h0 sz) [(h0, e)] := by
  have key : ∀ (k : Nat) (q : Nat × va_E), ([(h0, e)] : va_W)[k]? = some q → k = 0 ∧ q.1 = h0 := by
    intro k q h
    match k, h with
    | 0, h => cases h; exact ⟨rfl, rfl⟩
  refine ⟨fun i j p q hi hj _ => ?_, fun k q h => Or.inl (key k q h).2⟩
  rw [(key i p hi).1, (key j q hj).1]
theorem pl_last {D : va_G} {cl : List vw_C} {wr : va_W} {x : Nat × va_E} {H : Heap} (h : va_P D cl (wr ++ [x]) H) : va_P D cl [x] H := by
  intro k q hk
  match k, hk with
  | 0, hk =>
    cases hk
    exact h wr.length x (by rw [List.getElem?_append_right (Nat.le_refl _), Nat.sub_self]; rfl)
theorem pl_init {D : va_G} {cl : List vw_C} {wr w2 : va_W} {H : Heap} (h : va_P D cl (wr ++ w2) H) : va_P D cl wr H := by
  intro k q hk
  refine h k q ?_
  rw [List.getElem?_append_left (List.getElem?_eq_some_iff.mp hk).1]
  exact hk
theorem dl_init {A : Nat → Prop} {wr w2 : va_W} (h : va_D A (wr ++ w2)) : va_D A wr := by
  have key : ∀ (k : Nat) (q : Nat × va_E), wr[k]? = some q → (wr ++ w2)[k]? = some q := by
    intro k q hk
    rw [List.getElem?_append_left (List.getElem?_eq_some_iff.mp hk).1]
    exact hk
  exact ⟨fun i j p q hi hj e => h.1 i j p q (key i p hi) (key j q hj) e, fun k q hk => h.2 k q (key k q hk)⟩
theorem dl_last {A : Nat → Prop} {wr : va_W} {x : Nat × va_E} (h : va_D A (wr ++ [x])) : A x.1 ∧ ∀ (k : Nat) (q : Nat × va_E), wr[k]? = some q → q.1 ≠ x.1 := by
  have hx : (wr ++ [x])[wr.length]? = some x := by rw [List.getElem?_append_right (Nat.le_refl _), Nat.sub_self]; rfl
  refine ⟨h.2 _ x hx, fun k q hk e => ?_⟩
  have hl := (List.getElem?_eq_some_iff.mp hk).1
  have := h.1 k wr.length q x (by rw [List.getElem?_append_left hl]; exact hk) hx e
  omega
section MK
variable {p : Program} {l : Launch} {e : Env} {R : Room} {s : State} {m : MethodId} {args : Array Value} {below : List Frame} {meth : Method} {c : Code} {H : Heap} {locs : List Loc} {cells slots : Nat} {Q : State → Prop}
variable {cc : ByteArray} {pc : Nat} {ls : Array Slot} {rest : List Value} {D : va_G} {A : Nat → Prop} {ws : va_W} {H0 : Heap} {cT : Nat → ClassId}
theorem nw_arr (hx : p.tables.exec = Jvm.exec) (hb : c.code = cc) {atype : ArrayType} (harr : (Cond.arrayClass (newarray.typeOf atype)).before args s = true) {ty : FieldType} (hty : newarray.typeOf atype = ty) (hra : ∀ c, va_RA s c ty → s.vm.findClass ("[" ++ ty.toString) = some c) (hK : va_K D am_cl (am_tys cT) s) (t0 : Nat) {cA0 : ClassId} (ht : (am_tys cT)[t0]? = some (cA0, ty)) (hP : va_P D am_cl ws H) (hD : va_D A ws) (hS : va_S A H0 H locs) (hA : ∀ q, H0.size ≤ q → A q)
    {n : Int32} {N' : Nat} {a0 : vp_A} (ha : ∀ cA : ClassId, vp_cell cA a0 = arrV cA N' (fun _ => defaultValue ty)) (hn : ¬ n < 0) (hN : n.toNatClampNeg = N') (hbytes : N' * componentBytes ty ≤ 536870912) (hcells : cells + 1 ≤ R.cells) (hslots : slots + N' ≤ R.slots) (hdg : decode cc pc = .ok (.newarray atype, 2))
    (kk : ∀ (q : Nat) (H1 : Heap), va_P D am_cl (ws ++ [(q, .inl (cA0, a0))]) H1 → va_D A (ws ++ [(q, .inl (cA0, a0))]) → va_S A H0 H1 locs → W p l e R s m args below meth c H1 locs (cells + 1) (slots + N') Q (F0 m (pc + 2) ls (.ref q :: rest))) : W p l e R s m args below meth c H locs cells slots Q (F0 m pc ls (.int n :: rest)) := by
  refine va_newa hx hb harr hty hK hP hD hS hA ha hn hN hbytes hcells hslots hdg (fun q cA H1 hK1 hP1 hD1 hS1 => ?_)
  have e1 := hra cA (hK1.2 (am_tys cT).length (cA, ty) (by rw [List.getElem?_append_right (Nat.le_refl _), Nat.sub_self]; rfl)).2
  have e2 := hra cA0 (hK.2 t0 _ ht).2
  rw [e1] at e2
  cases e2
  exact kk q H1 hP1 hD1 hS1
theorem nw_mna (hx : p.tables.exec = Jvm.exec) (hb : c.code = cc) {own : String} {index : Nat} {ty : FieldType} (hown : s.vm.findClass own = some m.cls) (hclink : (Cond.classLink own index ("[" ++ (FieldType.array ty).toString)).before args s = true) (hover : kM_ ty s) (harr : (Cond.arrayClass ty).before args s = true) (hra : ∀ c, va_RA s c ty → s.vm.findClass (FieldType.array ty).toString = some c)
    (hK : va_K D am_cl (am_tys cT) s) (t0 t1 : Nat) {cA0 cy : ClassId} (ht0 : (am_tys cT)[t0]? = some (cA0, .array ty)) (ht1 : (am_tys cT)[t1]? = some (cy, ty)) (hP : va_P D am_cl ws H) (hD : va_D A ws) (hS : va_S A H0 H locs) (hA : ∀ q, H0.size ≤ q → A q) {n k : Int32} {N' K' : Nat} {z : vp_A} (hn : ¬ n < 0) (hk : ¬ k < 0) (hN : n.toNatClampNeg = N') (hM : k.toNatClampNeg = K')
    (hb1 : N' * 4 ≤ 536870912) (hb2 : K' * componentBytes ty ≤ 536870912) (hb3 : K' ≤ 536870912) (hdf : fits ty (defaultValue ty) = true) (hdd : (defaultValue ty).isDefault = true) (hcells : cells + (1 + N') ≤ R.cells) (hslots : slots + (N' + N' * K') ≤ R.slots) (hz : ∀ c : ClassId, arrV c K' (fun _ => defaultValue ty) = vp_cell c z) (hdg : decode cc pc = .ok (.multianewarray index 2, 4))
    (kk : ∀ (q : Nat) (r : Nat → Nat) (H1 : Heap), va_P D am_cl (ws ++ ((q, .inl (cA0, N', .inr (.inr (.inr (.inr (fun j => some (((List.range N').map r).getD j 0))))))) :: (List.range N').map (fun i => (r i, .inl (cy, z))))) H1 → va_D A (ws ++ ((q, .inl (cA0, N', .inr (.inr (.inr (.inr (fun j => some (((List.range N').map r).getD j 0))))))) :: (List.range N').map (fun i => (r i, .inl (cy, z))))) → va_S A H0 H1 locs → W p l e R s m args below meth c H1 locs (cells + 1 + N') (slots + N' + N' * K') Q (F0 m (pc + 4) ls (.ref q :: rest))) : W p l e R s m args below meth c H locs cells slots Q (F0 m pc ls (.int k :: .int n :: rest)) := by
  subst hN
  subst hM
  intro T hT Xs
  obtain ⟨vm₁, cA, comp, fA, fC, X', step⟩ := mr_go Xs hx hown hclink (kM_use hover) harr (g := F0 m pc ls (.int k :: .int n :: rest)) rfl (by rw [hb]; exact hdg) rfl hn hk hb1 hb2 hb3 hdf hcells hslots
  have e1 : some comp = some cy := fC.symm.trans (hra cy (hK.2 t1 _ ht1).2)
  cases e1
  have e2 : some cA = some cA0 := fA.symm.trans (show s.vm.findClass ("[" ++ (FieldType.array ty).toString) = some cA0 from (hK.2 t0 _ ht0).2)
  cases e2
  have hTh : (T.setVm vm₁).heap = H := hT
  have f1 := mr_size (U := T.setVm vm₁) cA0 cy n.toNatClampNeg k.toNatClampNeg (defaultValue ty) n.toNatClampNeg
  have f2 := mr_atTop (U := T.setVm vm₁) cA0 cy n.toNatClampNeg k.toNatClampNeg (defaultValue ty) n.toNatClampNeg
  have f3 := fun (x : Nat) (hx : x < (T.setVm vm₁).heap.size) => mr_atOld (U := T.setVm vm₁) cA0 cy n.toNatClampNeg k.toNatClampNeg (defaultValue ty) n.toNatClampNeg hx
  have f4 := fun (j : Nat) (hj : j < n.toNatClampNeg) => mr_atRow (U := T.setVm vm₁) cA0 cy n.toNatClampNeg k.toNatClampNeg (defaultValue ty) n.toNatClampNeg hj
  generalize mr_st (T.setVm vm₁) cA0 cy n.toNatClampNeg k.toNatClampNeg (defaultValue ty) n.toNatClampNeg = F at X' step f1 f2 f3 f4
  rw [hTh] at f1 f2 f3 f4
  have hold : ∀ x : Nat, x < H.size → F.heap[x]? = H[x]? := f3
  have hrow : ∀ j : Nat, j < n.toNatClampNeg → F.heap[H.size + 1 + j]? = some (vp_cell cy z) := fun j hj => by
    rw [f4 j hj, ← hz cy, ← arrV_new]
    rfl
  rw [ow_top] at f2
  have hkey : ∀ (k9 : Nat) (x : Nat × va_E), (((H.size, .inl (cA0, n.toNatClampNeg, .inr (.inr (.inr (.inr (fun j => some (((List.range n.toNatClampNeg).map (fun i => H.size + 1 + i)).getD j 0))))))) :: (List.range n.toNatClampNeg).map (fun i => (H.size + 1 + i, .inl (cy, z)))) : va_W)[k9]? = some x → x.1 = H.size + k9 ∧ va_at D am_cl x F.heap := by
    intro k9 x h9
    match k9, h9 with
    | 0, h9 =>
      cases h9
      exact ⟨rfl, f2⟩
    | j + 1, h9 =>
      rw [List.getElem?_cons_succ, List.getElem?_map] at h9
      by_cases hj : j < n.toNatClampNeg
      · rw [List.getElem?_range hj] at h9
        cases h9
        exact ⟨by show H.size + 1 + j = H.size + (j + 1); omega, hrow j hj⟩
      · rw [List.getElem?_eq_none (by rw [List.length_range]; omega)] at h9
        cases h9
  have hP1 := (hP.kept (H1 := F.heap) (fun k9 x h9 => hold x.1 ((hP k9 x h9).lt))).app (fun k9 x h9 => (hkey k9 x h9).2)
  have hD2 : va_D A ((H.size, .inl (cA0, n.toNatClampNeg, .inr (.inr (.inr (.inr (fun j => some (((List.range n.toNatClampNeg).map (fun i => H.size + 1 + i)).getD j 0))))))) :: (List.range n.toNatClampNeg).map (fun i => (H.size + 1 + i, .inl (cy, z)))) :=
    ⟨fun i j x y hi hj he => by have := (hkey i x hi).1; have := (hkey j y hj).1; omega, fun k9 x h9 => hA _ (by have := (hkey k9 x h9).1; have := hS.1; omega)⟩
  have hD1 := hD.app hD2 (fun i j x y hi hj he => by have := (hkey j y hj).1; have := (hP i x hi).lt; omega)
  obtain ⟨t, a1, b1⟩ := kk H.size (fun i => H.size + 1 + i) F.heap hP1 hD1 ⟨by rw [f1]; have := hS.1; omega, fun x h1 h2 => (hold x (Nat.lt_of_lt_of_le h1 hS.1)).trans (hS.2.1 x h1 h2), hS.2.2⟩ F rfl X'
  refine ⟨t, step t ?_, b1⟩
  have e : T.heap.size = H.size := by rw [hT]
  rw [e]
  exact a1
/-- behind a constructor: its cells beside the others -/
theorem nw_call {Wf : (Nat → Nat) → va_W} {wr : va_W} {q mc ms : Nat} {e0 : va_E} {st0 : List Value} {a : Array Value} (hr : va_Run p l e R s m args below meth c H locs cells slots mc ms (F0 m pc ls st0) rest (kQ_ D Wf q H.size a) (fr0 q H.size)) (hP : va_P D am_cl (wr ++ [(q, e0)]) H) (hD : va_D A (wr ++ [(q, e0)])) (hS : va_S A s.heap H locs) (hA : ∀ q, s.heap.size ≤ q → A q)
    (kk : ∀ (ad : Nat → Nat) (H1 : Heap) (locs1 : List Loc), ad 0 = q → va_P D am_cl (wr ++ Wf ad) H1 → va_D A (wr ++ Wf ad) → va_S A s.heap H1 locs1 → W p l e R s m args below meth c H1 locs1 (cells + mc) (slots + ms) Q (F0 m (pc + 3) ls rest)) : W p l e R s m args below meth c H locs cells slots Q (F0 m pc ls st0) := by
  intro T hT X
  obtain ⟨v, st₀, t, T', L, h0, X', hL, e1, e2, ⟨⟨hv, ad, had, hP1, hD1⟩, hz, hf⟩, st⟩ := hr T hT X
  cases hv
  rw [h0] at hz hf
  obtain ⟨hq, hne⟩ := dl_last hD
  have hfr : ∀ x, fr0 q H.size x → A x := fun x h => by
    rcases h with rfl | h
    · exact hq
    · exact hA x (Nat.le_trans hS.1 h)
  have hwr : ∀ (k : Nat) (y : Nat × va_E), wr[k]? = some y → y.1 < H.size ∧ ¬ fr0 q H.size y.1 := fun k y hk => by
    have h1 := (pl_init hP k y hk).lt
    refine ⟨h1, fun h => ?_⟩
    rcases h with h | h
    · exact hne k y hk h
    · omega
  have hP2 : va_P D am_cl (wr ++ Wf ad) t.heap := ((pl_init hP).kept (fun k y hk => hf y.1 (hwr k y hk).1 (hwr k y hk).2)).app hP1
  have hD2 : va_D A (wr ++ Wf ad) := (dl_init hD).app (hD1.weaken (fun _ y _ h => hfr y.1 h)) (fun i j x y hi hj he => (hwr i x hi).2 (by rw [he]; exact hD1.2 j y hj))
  obtain ⟨t2, a1, b1⟩ := kk ad T'.heap (locs ++ L) had (by rw [e1]; exact hP2) hD2
    ⟨Nat.le_trans hS.1 (by rw [e1]; exact hz), fun x h1 h2 => by rw [e1, hf x (Nat.lt_of_lt_of_le h1 hS.1) (fun h => h2 (hfr x h))]; exact hS.2.1 x h1 h2, fun x hx => by
      rcases List.mem_append.mp hx with h | h
      · exact hS.2.2 x h
      · exact hfr _ (hL x h)⟩ T' rfl X'
  exact ⟨t2, st t2 a1, b1⟩
end MK
theorem at_refs {D : va_G} {cl : List vw_C} {q N : Nat} {c : ClassId} {f g : Nat → Option Nat} {H : Heap} (h : va_at D cl (q, .inl (c, N, .inr (.inr (.inr (.inr f))))) H) (hfg : ∀ j, j < N → f j = g j) : va_at D cl (q, .inl (c, N, .inr (.inr (.inr (.inr g))))) H := by
  have h1 : H[q]? = some (arrV c N (fun j => va_rf (f j))) := h
  rw [arrV_ext (g := fun j => va_rf (g j)) (fun j hj => by rw [hfg j hj])] at h1
  exact h1
theorem za_int (N : Nat) (c : ClassId) : vp_cell c (N, .inl (fun _ => Int32.ofInt 0)) = arrV c N (fun _ => defaultValue .int) := by
  have e : Value.int (Int32.ofInt 0) = defaultValue .int := rfl
  show arrV c N (fun _ => Value.int (Int32.ofInt 0)) = _
  rw [e]
theorem za_byte (N : Nat) (c : ClassId) : vp_cell c (N, .inl (fun _ => Int32.ofInt 0)) = arrV c N (fun _ => defaultValue .byte) := by
  have e : Value.int (Int32.ofInt 0) = defaultValue .byte := rfl
  show arrV c N (fun _ => Value.int (Int32.ofInt 0)) = _
  rw [e]
theorem za_boolean (N : Nat) (c : ClassId) : vp_cell c (N, .inl (fun _ => Int32.ofInt 0)) = arrV c N (fun _ => defaultValue .boolean) := by
  have e : Value.int (Int32.ofInt 0) = defaultValue .boolean := rfl
  show arrV c N (fun _ => Value.int (Int32.ofInt 0)) = _
  rw [e]
theorem za_long (N : Nat) (c : ClassId) : vp_cell c (N, .inr (.inl (fun _ => Int64.ofInt 0))) = arrV c N (fun _ => defaultValue .long) := by
  have e : Value.long (Int64.ofInt 0) = defaultValue .long := rfl
  show arrV c N (fun _ => Value.long (Int64.ofInt 0)) = _
  rw [e]
