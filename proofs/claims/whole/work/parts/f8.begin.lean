theorem dX1_rowNow_0 : decode cX1_rowNow 0 = .ok (.aload_n 0, 1) := by decide +kernel
theorem dX1_rowNow_1 : decode cX1_rowNow 1 = .ok (.getfield 20, 3) := by decide +kernel
theorem dX1_rowNow_4 : decode cX1_rowNow 4 = .ok (.aload_n 0, 1) := by decide +kernel
theorem dX1_rowNow_5 : decode cX1_rowNow 5 = .ok (.getfield 23, 3) := by decide +kernel
theorem dX1_rowNow_8 : decode cX1_rowNow 8 = .ok (.aload_n 0, 1) := by decide +kernel
theorem dX1_rowNow_9 : decode cX1_rowNow 9 = .ok (.getfield 9, 3) := by decide +kernel
theorem dX1_rowNow_12 : decode cX1_rowNow 12 = .ok (.iadd, 1) := by decide +kernel
theorem dX1_rowNow_13 : decode cX1_rowNow 13 = .ok (.bipush 41, 2) := by decide +kernel
theorem dX1_rowNow_15 : decode cX1_rowNow 15 = .ok (.irem, 1) := by decide +kernel
theorem dX1_rowNow_16 : decode cX1_rowNow 16 = .ok (.aaload, 1) := by decide +kernel
theorem dX1_rowNow_17 : decode cX1_rowNow 17 = .ok (.areturn, 1) := by decide +kernel
theorem dX1_clear_0 : decode cX1_clear 0 = .ok (.aload_n 0, 1) := by decide +kernel
theorem dX1_clear_1 : decode cX1_clear 1 = .ok (.iconst 0, 1) := by decide +kernel
theorem dX1_clear_2 : decode cX1_clear 2 = .ok (.putfield 23, 3) := by decide +kernel
theorem dX1_clear_5 : decode cX1_clear 5 = .ok (.aload_n 0, 1) := by decide +kernel
theorem dX1_clear_6 : decode cX1_clear 6 = .ok (.iconst 0, 1) := by decide +kernel
theorem dX1_clear_7 : decode cX1_clear 7 = .ok (.putfield 9, 3) := by decide +kernel
theorem dX1_clear_10 : decode cX1_clear 10 = .ok (.aload_n 0, 1) := by decide +kernel
theorem dX1_clear_11 : decode cX1_clear 11 = .ok (.iconst 0, 1) := by decide +kernel
theorem dX1_clear_12 : decode cX1_clear 12 = .ok (.putfield 15, 3) := by decide +kernel
theorem dX1_clear_15 : decode cX1_clear 15 = .ok (.aload_n 1, 1) := by decide +kernel
theorem dX1_clear_16 : decode cX1_clear 16 = .ok (.iconst 0, 1) := by decide +kernel
theorem dX1_clear_17 : decode cX1_clear 17 = .ok (.aload_n 0, 1) := by decide +kernel
theorem dX1_clear_18 : decode cX1_clear 18 = .ok (.invokevirtual 26, 3) := by decide +kernel
theorem dX1_clear_21 : decode cX1_clear 21 = .ok (.iconst 0, 1) := by decide +kernel
theorem dX1_clear_22 : decode cX1_clear 22 = .ok (.bipush 49, 2) := by decide +kernel
theorem dX1_clear_24 : decode cX1_clear 24 = .ok (.invokestatic 30, 3) := by decide +kernel
theorem dX1_clear_27 : decode cX1_clear 27 = .ok (.return_, 1) := by decide +kernel
theorem dX2_begin_0 : decode cX2_begin 0 = .ok (.aload_n 0, 1) := by decide +kernel
theorem dX2_begin_1 : decode cX2_begin 1 = .ok (.aload_n 0, 1) := by decide +kernel
theorem dX2_begin_2 : decode cX2_begin 2 = .ok (.getfield 19, 3) := by decide +kernel
theorem dX2_begin_5 : decode cX2_begin 5 = .ok (.getfield 23, 3) := by decide +kernel
theorem dX2_begin_8 : decode cX2_begin 8 = .ok (.putfield 15, 3) := by decide +kernel
theorem dX2_begin_11 : decode cX2_begin 11 = .ok (.aload_n 0, 1) := by decide +kernel
theorem dX2_begin_12 : decode cX2_begin 12 = .ok (.getfield 9, 3) := by decide +kernel
theorem dX2_begin_15 : decode cX2_begin 15 = .ok (.bipush 48, 2) := by decide +kernel
theorem dX2_begin_17 : decode cX2_begin 17 = .ok (.iconst 0, 1) := by decide +kernel
theorem dX2_begin_18 : decode cX2_begin 18 = .ok (.iastore, 1) := by decide +kernel
theorem dX2_begin_19 : decode cX2_begin 19 = .ok (.iconst 0, 1) := by decide +kernel
theorem dX2_begin_20 : decode cX2_begin 20 = .ok (.istore_n 1, 1) := by decide +kernel
theorem dX2_begin_21 : decode cX2_begin 21 = .ok (.iload_n 1, 1) := by decide +kernel
theorem dX2_begin_22 : decode cX2_begin 22 = .ok (.aload_n 0, 1) := by decide +kernel
theorem dX2_begin_23 : decode cX2_begin 23 = .ok (.getfield 19, 3) := by decide +kernel
theorem dX2_begin_26 : decode cX2_begin 26 = .ok (.getfield 28, 3) := by decide +kernel
theorem dX2_begin_29 : decode cX2_begin 29 = .ok (.iconst 0, 1) := by decide +kernel
theorem dX2_begin_30 : decode cX2_begin 30 = .ok (.iaload, 1) := by decide +kernel
theorem dX2_begin_31 : decode cX2_begin 31 = .ok (.if_icmp .ge 84, 3) := by decide +kernel
theorem dX2_begin_34 : decode cX2_begin 34 = .ok (.aload_n 0, 1) := by decide +kernel
theorem dX2_begin_35 : decode cX2_begin 35 = .ok (.getfield 9, 3) := by decide +kernel
theorem dX2_begin_38 : decode cX2_begin 38 = .ok (.iconst 0, 1) := by decide +kernel
theorem dX2_begin_39 : decode cX2_begin 39 = .ok (.iload_n 1, 1) := by decide +kernel
theorem dX2_begin_40 : decode cX2_begin 40 = .ok (.iadd, 1) := by decide +kernel
theorem dX2_begin_41 : decode cX2_begin 41 = .ok (.aload_n 0, 1) := by decide +kernel
theorem dX2_begin_42 : decode cX2_begin 42 = .ok (.getfield 19, 3) := by decide +kernel
theorem dX2_begin_45 : decode cX2_begin 45 = .ok (.getfield 31, 3) := by decide +kernel
theorem dX2_begin_48 : decode cX2_begin 48 = .ok (.iload_n 1, 1) := by decide +kernel
theorem dX2_begin_49 : decode cX2_begin 49 = .ok (.iaload, 1) := by decide +kernel
theorem dX2_begin_50 : decode cX2_begin 50 = .ok (.iastore, 1) := by decide +kernel
theorem dX2_begin_51 : decode cX2_begin 51 = .ok (.aload_n 0, 1) := by decide +kernel
theorem dX2_begin_52 : decode cX2_begin 52 = .ok (.getfield 9, 3) := by decide +kernel
theorem dX2_begin_55 : decode cX2_begin 55 = .ok (.bipush 6, 2) := by decide +kernel
theorem dX2_begin_57 : decode cX2_begin 57 = .ok (.iload_n 1, 1) := by decide +kernel
theorem dX2_begin_58 : decode cX2_begin 58 = .ok (.iadd, 1) := by decide +kernel
theorem dX2_begin_59 : decode cX2_begin 59 = .ok (.iconst 0, 1) := by decide +kernel
theorem dX2_begin_60 : decode cX2_begin 60 = .ok (.iastore, 1) := by decide +kernel
theorem dX2_begin_61 : decode cX2_begin 61 = .ok (.aload_n 0, 1) := by decide +kernel
theorem dX2_begin_62 : decode cX2_begin 62 = .ok (.getfield 9, 3) := by decide +kernel
theorem dX2_begin_65 : decode cX2_begin 65 = .ok (.bipush 12, 2) := by decide +kernel
theorem dX2_begin_67 : decode cX2_begin 67 = .ok (.iload_n 1, 1) := by decide +kernel
theorem dX2_begin_68 : decode cX2_begin 68 = .ok (.iadd, 1) := by decide +kernel
theorem dX2_begin_69 : decode cX2_begin 69 = .ok (.iconst (-1), 1) := by decide +kernel
theorem dX2_begin_70 : decode cX2_begin 70 = .ok (.iastore, 1) := by decide +kernel
theorem dX2_begin_71 : decode cX2_begin 71 = .ok (.aload_n 0, 1) := by decide +kernel
theorem dX2_begin_72 : decode cX2_begin 72 = .ok (.getfield 9, 3) := by decide +kernel
theorem dX2_begin_75 : decode cX2_begin 75 = .ok (.bipush 18, 2) := by decide +kernel
theorem dX2_begin_77 : decode cX2_begin 77 = .ok (.iload_n 1, 1) := by decide +kernel
theorem dX2_begin_78 : decode cX2_begin 78 = .ok (.iadd, 1) := by decide +kernel
theorem dX2_begin_79 : decode cX2_begin 79 = .ok (.aload_n 0, 1) := by decide +kernel
theorem dX2_begin_80 : decode cX2_begin 80 = .ok (.iload_n 1, 1) := by decide +kernel
theorem dX2_begin_81 : decode cX2_begin 81 = .ok (.invokevirtual 34, 3) := by decide +kernel
theorem dX2_begin_84 : decode cX2_begin 84 = .ok (.iastore, 1) := by decide +kernel
theorem dX2_begin_85 : decode cX2_begin 85 = .ok (.aload_n 0, 1) := by decide +kernel
theorem dX2_begin_86 : decode cX2_begin 86 = .ok (.getfield 19, 3) := by decide +kernel
theorem dX2_begin_89 : decode cX2_begin 89 = .ok (.getfield 38, 3) := by decide +kernel
theorem dX2_begin_92 : decode cX2_begin 92 = .ok (.iload_n 1, 1) := by decide +kernel
theorem dX2_begin_93 : decode cX2_begin 93 = .ok (.aaload, 1) := by decide +kernel
theorem dX2_begin_94 : decode cX2_begin 94 = .ok (.iconst 0, 1) := by decide +kernel
theorem dX2_begin_95 : decode cX2_begin 95 = .ok (.aload_n 0, 1) := by decide +kernel
theorem dX2_begin_96 : decode cX2_begin 96 = .ok (.getfield 9, 3) := by decide +kernel
theorem dX2_begin_99 : decode cX2_begin 99 = .ok (.bipush 24, 2) := by decide +kernel
theorem dX2_begin_101 : decode cX2_begin 101 = .ok (.iload_n 1, 1) := by decide +kernel
theorem dX2_begin_102 : decode cX2_begin 102 = .ok (.iconst 4, 1) := by decide +kernel
theorem dX2_begin_103 : decode cX2_begin 103 = .ok (.imul, 1) := by decide +kernel
theorem dX2_begin_104 : decode cX2_begin 104 = .ok (.iadd, 1) := by decide +kernel
theorem dX2_begin_105 : decode cX2_begin 105 = .ok (.iconst 4, 1) := by decide +kernel
theorem dX2_begin_106 : decode cX2_begin 106 = .ok (.invokestatic 42, 3) := by decide +kernel
theorem dX2_begin_109 : decode cX2_begin 109 = .ok (.iinc 1 1, 3) := by decide +kernel
theorem dX2_begin_112 : decode cX2_begin 112 = .ok (.goto (-91), 3) := by decide +kernel
theorem dX2_begin_115 : decode cX2_begin 115 = .ok (.return_, 1) := by decide +kernel
def bz_ (cT : Nat → ClassId) (D : va_G) (ws : va_W) (U : State) : Prop := va_P D am_cl ws U.heap ∧ va_D (fun _ => True) ws ∧ va_K D am_cl (am_tys cT) U
def iw_ (ws : va_W) : Nat → Prop := fun q => ∃ (k : Nat) (e : va_E), ws[k]? = some (q, e)
def bq_ (D : va_G) (ws : va_W) : Array Value → State → Outcome → State → Prop := fun _ st oc t => (oc = .returned none ∧ va_P D am_cl ws t.heap) ∧ va_F (iw_ ws) st t
theorem bz_blind {cT : Nat → ClassId} {D : va_G} {ws : va_W} (as : List Value) : FrameBlind (va_Pc as (bz_ cT D ws)) := by
  intro a U g mk h
  obtain ⟨h1, h2, h3, h4⟩ := h
  exact ⟨h1, h2, h3, va_K.moved (u := U) (U := U.calling g mk a) (Vm.Alike.refl U.vm) h4⟩
theorem kSx_ {ws : va_W} {i : Nat} {x : Nat × va_E} (h : ws[i]? = some x) : ws.set i x = ws := by
  apply List.ext_getElem?
  intro j
  by_cases hj : j = i
  · subst hj
    rw [List.getElem?_set_self (List.getElem?_eq_some_iff.mp h).1, h]
  · rw [List.getElem?_set_ne (fun q => hj q.symm)]
theorem kUz_ (z : Int32) (k : Nat) : upd (fun _ => z) k z = fun _ => z := by
  funext j
  unfold upd
  split <;> rfl
theorem kCz_ (z : Int32) (a b n : Nat) : va_cpy (fun _ => z) (fun _ => z) a b n = fun _ => z := by
  funext j
  unfold va_cpy
  split <;> rfl
section BZ
variable {p : Program} {l : Launch} {e : Env} {R : Room} {s : State} {m : MethodId} {args : Array Value} {below : List Frame} {meth : Method} {c : Code} {cells slots : Nat} {Qf : State → Prop}
theorem bz_call {D : va_G} {ws : va_W} {A : Nat → Prop} {pc : Nat} {ls : Array Slot} {st0 rest : List Value} {a : Array Value} {H : Heap} {locs : List Loc} (hr : va_Run p l e R s m args below meth c H locs cells slots 0 0 (F0 m pc ls st0) rest (bq_ D ws a) (iw_ ws)) (hD : va_D A ws) (hV : va_S A s.heap H locs)
    (kk : ∀ H1 locs1, va_P D am_cl ws H1 → va_S A s.heap H1 locs1 → W p l e R s m args below meth c H1 locs1 cells slots Qf (F0 m (pc + 3) ls rest)) : W p l e R s m args below meth c H locs cells slots Qf (F0 m pc ls st0) := by
  intro T hT X
  obtain ⟨v, st₀, t, T', L, h0, X', hL, e1, e2, ⟨⟨hv, hp⟩, hz, hf⟩, st⟩ := hr T hT X
  cases hv
  rw [h0] at hz hf
  have hiA : ∀ q, iw_ ws q → A q := fun q ⟨k, e, hk⟩ => hD.2 k _ hk
  obtain ⟨t2, a1, b1⟩ := kk T'.heap (locs ++ L) (by rw [e1]; exact hp)
    ⟨Nat.le_trans hV.1 (by rw [e1]; exact hz), fun q h1 h2 => by rw [e1, hf q (Nat.lt_of_lt_of_le h1 hV.1) (fun h => h2 (hiA q h))]; exact hV.2.1 q h1 h2, fun q hq => by
      rcases List.mem_append.mp hq with h | h
      · exact hV.2.2 q h
      · exact hiA _ (hL q h)⟩ T' rfl X'
  exact ⟨t2, st t2 a1, b1⟩
theorem nw_aald {cc : ByteArray} {D : va_G} {cl : List vw_C} {ws : va_W} {pc : Nat} {ls : Array Slot} {rest : List Value} {H : Heap} {locs : List Loc} (hx : p.tables.exec = Jvm.exec) (hb : c.code = cc) (hP : va_P D cl ws H) {i2 q N v : Nat} {cA : ClassId} {g : Nat → Option Nat} (h : ws[i2]? = some (q, .inl (cA, N, .inr (.inr (.inr (.inr g)))))) (hT : ArrOfT s cA (.array .int)) {i : Int32} (hin : vp_in i N) (hv : va_rf (g i.toNatClampNeg) = .ref v) (hd : decode cc pc = .ok (.aaload, 1)) (kk : W p l e R s m args below meth c H locs cells slots Qf (F0 m (pc + 1) ls (.ref v :: rest))) : W p l e R s m args below meth c H locs cells slots Qf (F0 m pc ls (.int i :: .ref q :: rest)) := by
  have hlt : i.toNatClampNeg < N := Nat.not_le.mp fun q => hin (Or.inr q)
  exact W.aald (v := .ref v) (ty := .array .int) hx hb (hP i2 _ h) (hT N (fun j => va_rf (g j))) rfl (fun q => by cases q) (by show ¬ (_ < 0 ∨ (arrV _ _ _).slots.size ≤ _); rw [arrV_size]; exact hin) (by show (arrV _ _ _).slots[_]? = _; rw [arrV_read _ _ hlt, hv]) rfl rfl hd kk
end BZ
set_option maxHeartbeats 4000000 in
set_option maxRecDepth 100000 in
theorem kb_begin (l : Launch) {cT : Nat → ClassId} {D : va_G} {ws : va_W} {i1 i2 i3 i4 qP qC qT qN : Nat} {fsT : List Value} (h1 : ws[i1]? = some (qP, .inr (2, [.ref qC, .ref qT, .int (Int32.ofInt 0)]))) (h2 : ws[i2]? = some (qC, .inl (cT 0, 49, .inl (fun _ => Int32.ofInt 0)))) (h3 : ws[i3]? = some (qT, .inr (7, fsT))) (h4 : ws[i4]? = some (qN, .inl (cT 0, 5, .inl (fun _ => Int32.ofInt 0)))) (hf0 : fsT[0]? = some (.ref qN)) (hf11 : fsT[11]? = some (.int (Int32.ofInt 0))) : Met l yX2_begin (Cond.code yX2_begin cX2_begin 2 (none) :: am_WL) (js_rm 0) (va_Pc [.ref qP] (bz_ cT D ws)) (bq_ D ws) 0 0 (iw_ ws) := by
  refine Met.ofW (cc := cX2_begin) (maxL := 2) (ret := none) (by decide) rfl ?_
  intro p e s m args below meth c s₁ B hml hv
  obtain ⟨rfl, hv⟩ := hv
  have hx := B.exec
  have hb := B.bytes
  have hr := B.returns
  have hts0 := atoms_spec (ws := Cond.code yX2_begin cX2_begin 2 (none) :: am_WL) B.pre
  have hts : ∀ w ∈ am_WL, w.before ([.ref qP].toArray) s = true := fun w hw => hts0 w (List.mem_cons_of_mem _ hw)
  have hown : s.vm.findClass RX2 = some m.cls := findClass_of_methodNamed B.named
  have hlocks := B.notSynchronized
  obtain ⟨hP, hD0, hK⟩ := hv
  have hD : va_D (iw_ ws) ws := ⟨hD0.1, fun k q hk => ⟨k, q.2, hk⟩⟩
  have hS : va_S (iw_ ws) s.heap s.heap [] := va_S.rf
  have hl := lv_entry ([.ref qP]) (n := 2) (Nat.le_of_ble_eq_true rfl)
  rw [lg_entry_eq]
  generalize (lg_sl ([.ref qP]) ++ List.replicate (2 - (lg_sl ([.ref qP])).length) Slot.unset).toArray = ls at hl ⊢
  have hl : lv_has ls 2 [(0, .ref qP)] := hl
  refine lv_aload_n hx hb dX2_begin_0 rfl (lv_at hl 0 rfl) ?_
  refine lv_aload_n hx hb dX2_begin_1 rfl (lv_at hl 0 rfl) ?_
  refine va_get (D := D) (ci := 2) (v := .ref qT) (C := RX2) (T := TX2) (N := 3) hx hb hts am_ws_2 hown hK hP i1 h1 rfl 1 (by decide) (hts _ (tb_1 (n := 239) rfl rfl)) (fun _ h9 => h9) rfl dX2_begin_2 ?_
  refine va_get (D := D) (ci := 7) (v := .int (Int32.ofInt 0)) (C := RX7) (T := TX7) (N := 12) hx hb hts am_ws_7 hown hK hP i3 h3 rfl 11 (by decide) (hts _ (tb_1 (n := 105) rfl rfl)) (fun _ h9 => h9) hf11 dX2_begin_5 ?_
  refine va_put (D := D) (ci := 2) (v := .int (Int32.ofInt 0)) (ty := .int) (C := RX2) (T := TX2) (N := 3) hx hb hts am_ws_2 tyX2 tyX2_ok nmX2 hown hK hP hD hS i1 h1 rfl 2 (by decide) (hts _ (tb_2 (n := 2) rfl rfl)) (fun _ h9 => h9) rfl (tyX2_ok 2 (by decide)) rfl rfl (Nat.le_of_ble_eq_true rfl) dX2_begin_8 (fun H locs hP hD hS => ?_)
  rw [show ([.ref qC, .ref qT, .int (Int32.ofInt 0)] : List Value).set 2 (.int (Int32.ofInt 0)) = [.ref qC, .ref qT, .int (Int32.ofInt 0)] from rfl, kSx_ h1] at hP hD
  refine lv_aload_n hx hb dX2_begin_11 rfl (lv_at hl 0 rfl) ?_
  refine va_get (D := D) (ci := 2) (v := .ref qC) (C := RX2) (T := TX2) (N := 3) hx hb hts am_ws_2 hown hK hP i1 h1 rfl 0 (by decide) (hts _ (tb_1 (n := 235) rfl rfl)) (fun _ h9 => h9) rfl dX2_begin_12 ?_
  refine lv_bipush (v := nI 48) hx hb dX2_begin_15 (by decide) ?_
  refine lv_iconst (v := Int32.ofInt 0) hx hb dX2_begin_17 rfl ?_
  refine va_iast (D := D) hx hb hK hP hD hS i2 0 h2 rfl (vp_in_nI (by decide) (by decide)) dX2_begin_18 (fun H locs hP hD hS => ?_)
  rw [kUz_, kSx_ h2] at hP hD
  refine lv_iconst (v := Int32.ofInt 0) hx hb dX2_begin_19 rfl ?_
  refine lv_istore_n (lv' := [(1, .int (Int32.ofInt 0)), (0, .ref qP)]) hx hb dX2_begin_20 rfl hl (by decide) rfl (fun ls hl => ?_)
  refine lv_iload_n hx hb dX2_begin_21 rfl (lv_at hl 0 rfl) ?_
  refine lv_aload_n hx hb dX2_begin_22 rfl (lv_at hl 1 rfl) ?_
  refine va_get (D := D) (ci := 2) (v := .ref qT) (C := RX2) (T := TX2) (N := 3) hx hb hts am_ws_2 hown hK hP i1 h1 rfl 1 (by decide) (hts _ (tb_1 (n := 239) rfl rfl)) (fun _ h9 => h9) rfl dX2_begin_23 ?_
  refine va_get (D := D) (ci := 7) (v := .ref qN) (C := RX7) (T := TX7) (N := 12) hx hb hts am_ws_7 hown hK hP i3 h3 rfl 0 (by decide) (hts _ (tb_1 (n := 65) rfl rfl)) (fun _ h9 => h9) hf0 dX2_begin_26 ?_
  refine lv_iconst (v := nI 0) hx hb dX2_begin_29 (by decide) ?_
  refine va_iald (D := D) hx hb hK hP i4 0 h4 rfl (vp_in_nI (by decide) (by decide)) dX2_begin_30 ?_
  refine lv_icmp_ge (tgt := 115) hx hb dX2_begin_31 (by decide) (fun _ => ?_) (fun h => absurd (Int32.le_refl _) h)
  exact W.vret hx hb hr (fun t ht hW => ⟨⟨rfl, by rw [ht]; exact hP⟩, hS.F ht⟩) hS.2.2 dX2_begin_115 hlocks
set_option maxHeartbeats 4000000 in
set_option maxRecDepth 100000 in
theorem kb_rowNow (l : Launch) {cT : Nat → ClassId} {D : va_G} {ws : va_W} {i1 i2 qH qW qR : Nat} {g : Nat → Option Nat} (h1 : ws[i1]? = some (qH, .inr (1, [.int (Int32.ofInt 0), .int (Int32.ofInt 0), .ref qW, .int (Int32.ofInt 0)]))) (h2 : ws[i2]? = some (qW, .inl (cT 4, 41, .inr (.inr (.inr (.inr g)))))) (hg : g 0 = some qR) : Met l yX1_rowNow (Cond.code yX1_rowNow cX1_rowNow 1 (some (.array .int)) :: am_WL) (js_rm 0) (va_Pc [.ref qH] (bz_ cT D ws)) (js_Q (some (.ref qR))) 0 0 (fun _ => False) := by
  refine Met.ofW (cc := cX1_rowNow) (maxL := 1) (ret := some (.array .int)) (by decide) rfl ?_
  intro p e s m args below meth c s₁ B hml hv
  obtain ⟨rfl, hv⟩ := hv
  have hx := B.exec
  have hb := B.bytes
  have hr := B.returns
  have hts0 := atoms_spec (ws := Cond.code yX1_rowNow cX1_rowNow 1 (some (.array .int)) :: am_WL) B.pre
  have hts : ∀ w ∈ am_WL, w.before ([.ref qH].toArray) s = true := fun w hw => hts0 w (List.mem_cons_of_mem _ hw)
  have hown : s.vm.findClass RX1 = some m.cls := findClass_of_methodNamed B.named
  have hlocks := B.notSynchronized
  have hS : va_S (fun _ => False) s.heap s.heap [] := va_S.rf
  have hl := lv_entry ([.ref qH]) (n := 1) (Nat.le_of_ble_eq_true rfl)
  rw [lg_entry_eq]
  generalize (lg_sl ([.ref qH]) ++ List.replicate (1 - (lg_sl ([.ref qH])).length) Slot.unset).toArray = ls at hl ⊢
  have hl : lv_has ls 1 [(0, .ref qH)] := hl
  obtain ⟨hP, hD, hK⟩ := hv
  refine lv_aload_n hx hb dX1_rowNow_0 rfl (lv_at hl 0 rfl) ?_
  refine va_get (D := D) (ci := 1) (v := .ref qW) (C := RX1) (T := TX1) (N := 4) hx hb hts am_ws_1 hown hK hP i1 h1 rfl 2 (by decide) (hts _ (tb_2 (n := 22) rfl rfl)) (fun _ h9 => h9) rfl dX1_rowNow_1 ?_
  refine lv_aload_n hx hb dX1_rowNow_4 rfl (lv_at hl 0 rfl) ?_
  refine va_get (D := D) (ci := 1) (v := .int (Int32.ofInt 0)) (C := RX1) (T := TX1) (N := 4) hx hb hts am_ws_1 hown hK hP i1 h1 rfl 3 (by decide) (hts _ (tb_2 (n := 23) rfl rfl)) (fun _ h9 => h9) rfl dX1_rowNow_5 ?_
  refine lv_aload_n hx hb dX1_rowNow_8 rfl (lv_at hl 0 rfl) ?_
  refine va_get (D := D) (ci := 1) (v := .int (Int32.ofInt 0)) (C := RX1) (T := TX1) (N := 4) hx hb hts am_ws_1 hown hK hP i1 h1 rfl 0 (by decide) (hts _ (tb_2 (n := 18) rfl rfl)) (fun _ h9 => h9) rfl dX1_rowNow_9 ?_
  refine lv_iadd hx hb dX1_rowNow_12 ?_
  refine lv_bipush (v := 41) hx hb dX1_rowNow_13 (by decide) ?_
  refine lv_irem hx hb dX1_rowNow_15 (by decide +kernel) ?_
  refine lv_topi (fun z ez => ?_)
  have e0 : (Int32.ofInt 0 + Int32.ofInt 0) = 0 := by decide +kernel
  have ez : z = nI 0 := by
    rw [ez, e0]
    apply Int32.toInt_inj.mp
    rw [rem_toInt]
    decide +kernel
  subst ez
  refine nw_aald hx hb hP h2 (hK.2 4 _ rfl).1 (vp_in_nI (by decide) (by decide)) (by rw [nI_clamp (by decide), hg]; rfl) dX1_rowNow_16 ?_
  exact W.aret hx hb hr (Or.inr ⟨_, rfl⟩) (Or.inr ⟨_, rfl⟩) (fun t ht hW => ⟨rfl, hS.F ht⟩) hS.2.2 dX1_rowNow_17 hlocks
set_option maxHeartbeats 4000000 in
set_option maxRecDepth 100000 in
theorem kb_clear (l : Launch) {cT : Nat → ClassId} {D : va_G} {ws : va_W} {i1 i2 qH qW qR : Nat} {g : Nat → Option Nat} (h1 : ws[i1]? = some (qH, .inr (1, [.int (Int32.ofInt 0), .int (Int32.ofInt 0), .ref qW, .int (Int32.ofInt 0)]))) (h2 : ws[i2]? = some (qW, .inl (cT 4, 41, .inr (.inr (.inr (.inr g)))))) (hg : g 0 = some qR) {i3 i4 qC : Nat} (h3 : ws[i3]? = some (qR, .inl (cT 0, 49, .inl (fun _ => Int32.ofInt 0)))) (h4 : ws[i4]? = some (qC, .inl (cT 0, 49, .inl (fun _ => Int32.ofInt 0)))) : Met l yX1_clear (Cond.code yX1_clear cX1_clear 2 (none) :: am_WL) (js_rm 1) (va_Pc [.ref qH, .ref qC] (bz_ cT D ws)) (bq_ D ws) 0 0 (iw_ ws) := by
  refine Met.ofW (cc := cX1_clear) (maxL := 2) (ret := none) (by decide) rfl ?_
  intro p e s m args below meth c s₁ B hml hv
  obtain ⟨rfl, hv⟩ := hv
  have hx := B.exec
  have hb := B.bytes
  have hr := B.returns
  have hts0 := atoms_spec (ws := Cond.code yX1_clear cX1_clear 2 (none) :: am_WL) B.pre
  have hts : ∀ w ∈ am_WL, w.before ([.ref qH, .ref qC].toArray) s = true := fun w hw => hts0 w (List.mem_cons_of_mem _ hw)
  have hown : s.vm.findClass RX1 = some m.cls := findClass_of_methodNamed B.named
  have hlocks := B.notSynchronized
  obtain ⟨hP, hD0, hK⟩ := hv
  have hD : va_D (iw_ ws) ws := ⟨hD0.1, fun k q hk => ⟨k, q.2, hk⟩⟩
  have hS : va_S (iw_ ws) s.heap s.heap [] := va_S.rf
  have hl := lv_entry ([.ref qH, .ref qC]) (n := 2) (Nat.le_of_ble_eq_true rfl)
  rw [lg_entry_eq]
  generalize (lg_sl ([.ref qH, .ref qC]) ++ List.replicate (2 - (lg_sl ([.ref qH, .ref qC])).length) Slot.unset).toArray = ls at hl ⊢
  have hl : lv_has ls 2 [(0, .ref qH), (1, .ref qC)] := hl
  refine lv_aload_n hx hb dX1_clear_0 rfl (lv_at hl 0 rfl) ?_
  refine lv_iconst (v := Int32.ofInt 0) hx hb dX1_clear_1 rfl ?_
  refine va_put (D := D) (ci := 1) (v := .int (Int32.ofInt 0)) (ty := .int) (C := RX1) (T := TX1) (N := 4) hx hb hts am_ws_1 tyX1 tyX1_ok nmX1 hown hK hP hD hS i1 h1 rfl 3 (by decide) (hts _ (tb_2 (n := 23) rfl rfl)) (fun _ h9 => h9) rfl (tyX1_ok 3 (by decide)) rfl rfl (Nat.le_of_ble_eq_true rfl) dX1_clear_2 (fun H locs hP hD hS => ?_)
  rw [show ([.int (Int32.ofInt 0), .int (Int32.ofInt 0), .ref qW, .int (Int32.ofInt 0)] : List Value).set 3 (.int (Int32.ofInt 0)) = [.int (Int32.ofInt 0), .int (Int32.ofInt 0), .ref qW, .int (Int32.ofInt 0)] from rfl, kSx_ h1] at hP hD
  refine lv_aload_n hx hb dX1_clear_5 rfl (lv_at hl 0 rfl) ?_
  refine lv_iconst (v := Int32.ofInt 0) hx hb dX1_clear_6 rfl ?_
  refine va_put (D := D) (ci := 1) (v := .int (Int32.ofInt 0)) (ty := .int) (C := RX1) (T := TX1) (N := 4) hx hb hts am_ws_1 tyX1 tyX1_ok nmX1 hown hK hP hD hS i1 h1 rfl 0 (by decide) (hts _ (tb_2 (n := 18) rfl rfl)) (fun _ h9 => h9) rfl (tyX1_ok 0 (by decide)) rfl rfl (Nat.le_of_ble_eq_true rfl) dX1_clear_7 (fun H locs hP hD hS => ?_)
  rw [show ([.int (Int32.ofInt 0), .int (Int32.ofInt 0), .ref qW, .int (Int32.ofInt 0)] : List Value).set 0 (.int (Int32.ofInt 0)) = [.int (Int32.ofInt 0), .int (Int32.ofInt 0), .ref qW, .int (Int32.ofInt 0)] from rfl, kSx_ h1] at hP hD
  refine lv_aload_n hx hb dX1_clear_10 rfl (lv_at hl 0 rfl) ?_
  refine lv_iconst (v := Int32.ofInt 0) hx hb dX1_clear_11 rfl ?_
  refine va_put (D := D) (ci := 1) (v := .int (Int32.ofInt 0)) (ty := .int) (C := RX1) (T := TX1) (N := 4) hx hb hts am_ws_1 tyX1 tyX1_ok nmX1 hown hK hP hD hS i1 h1 rfl 1 (by decide) (hts _ (tb_2 (n := 20) rfl rfl)) (fun _ h9 => h9) rfl (tyX1_ok 1 (by decide)) rfl rfl (Nat.le_of_ble_eq_true rfl) dX1_clear_12 (fun H locs hP hD hS => ?_)
  rw [show ([.int (Int32.ofInt 0), .int (Int32.ofInt 0), .ref qW, .int (Int32.ofInt 0)] : List Value).set 1 (.int (Int32.ofInt 0)) = [.int (Int32.ofInt 0), .int (Int32.ofInt 0), .ref qW, .int (Int32.ofInt 0)] from rfl, kSx_ h1] at hP hD
  refine lv_aload_n hx hb dX1_clear_15 rfl (lv_at hl 1 rfl) ?_
  refine lv_iconst (v := Int32.ofInt 0) hx hb dX1_clear_16 rfl ?_
  refine lv_aload_n hx hb dX1_clear_17 rfl (lv_at hl 0 rfl) ?_
  refine js_callX (va_runV (C := RX1) (b := qH) (As := []) (rest := [.int (Int32.ofInt 0), .ref qC]) ⟨hx, hb, hml, hown, hts⟩ (kb_rowNow l h1 h2 hg) ⟨(callB_of 0 hts (js_goodIn (tb_2 (n := 140) rfl rfl)) rfl rfl rfl (hts _ (tb_1 (n := 10) rfl rfl)) (hts _ (tb_2 (n := 137) rfl rfl)) ⟨by decide +kernel, by decide +kernel, by decide +kernel⟩ ⟨Nat.le_of_ble_eq_true rfl, Nat.le_of_ble_eq_true rfl⟩), hts _ (tb_2 (n := 139) rfl rfl), hts _ (ts_1 (n := 1) (q := (yX1_rowNow, _)) rfl rfl)⟩ ⟨bz_blind _, va_recv (ci := 1) (q0 := i1) hK hP rfl h1, fun U hU hW => ⟨rfl, by rw [hU]; exact hP, hD0, hK.moved hW.alike⟩⟩ rfl rfl hl.1 rfl (lv_room (Nat.le_of_ble_eq_true rfl)) dX1_clear_18 ⟨Nat.zero_le _, Nat.zero_le _⟩) hS (fun H locs hsz hk hS => ?_)
  have hP := hP.kept (fun k q h => hk q.1 (hP k q h).lt)
  refine lv_iconst (v := Int32.ofInt 0) hx hb dX1_clear_21 rfl ?_
  refine lv_bipush (v := nI 49) hx hb dX1_clear_22 (by decide) ?_
  refine va_copyi (D := D) hx hb (by rw [hml]; exact hl.1.symm) hown (hts _ (tb_2 (n := 141) rfl rfl)) (hts _ (tb_2 (n := 132) rfl rfl)) (hts _ (tb_2 (n := 131) rfl rfl)) (hts _ (tb_1 (n := 14) rfl rfl)) hK hP hD hS i4 i3 0 0 h4 h3 rfl rfl rfl (by decide +kernel) (by decide +kernel) (by decide +kernel) (by decide +kernel) (by decide +kernel) (fun i _ => rfl) (Nat.le_of_ble_eq_true rfl) (by have := (by decide +kernel : nativeFrameWords "java/lang/System" "arraycopy" 5 ≤ 20); show 0 + (_ + 11) ≤ 60; omega) dX1_clear_24 (fun H locs hP hD hS => ?_)
  rw [kCz_, kSx_ h3] at hP hD
  exact W.vret hx hb hr (fun t ht hW => ⟨⟨rfl, by rw [ht]; exact hP⟩, hS.F ht⟩) hS.2.2 dX1_clear_27 hlocks
