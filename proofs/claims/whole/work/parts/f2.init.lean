theorem dX0_init_0 : decode cX0_init 0 = .ok (.aload_n 0, 1) := by decide +kernel
theorem dX0_init_1 : decode cX0_init 1 = .ok (.invokespecial 3, 3) := by decide +kernel
theorem dX0_init_4 : decode cX0_init 4 = .ok (.aload_n 0, 1) := by decide +kernel
theorem dX0_init_5 : decode cX0_init 5 = .ok (.sipush 300, 3) := by decide +kernel
theorem dX0_init_8 : decode cX0_init 8 = .ok (.newarray .int, 2) := by decide +kernel
theorem dX0_init_10 : decode cX0_init 10 = .ok (.putfield 9, 3) := by decide +kernel
theorem dX0_init_13 : decode cX0_init 13 = .ok (.aload_n 0, 1) := by decide +kernel
theorem dX0_init_14 : decode cX0_init 14 = .ok (.sipush 300, 3) := by decide +kernel
theorem dX0_init_17 : decode cX0_init 17 = .ok (.newarray .int, 2) := by decide +kernel
theorem dX0_init_19 : decode cX0_init 19 = .ok (.putfield 15, 3) := by decide +kernel
theorem dX0_init_22 : decode cX0_init 22 = .ok (.aload_n 0, 1) := by decide +kernel
theorem dX0_init_23 : decode cX0_init 23 = .ok (.bipush 30, 2) := by decide +kernel
theorem dX0_init_25 : decode cX0_init 25 = .ok (.newarray .int, 2) := by decide +kernel
theorem dX0_init_27 : decode cX0_init 27 = .ok (.putfield 18, 3) := by decide +kernel
theorem dX0_init_30 : decode cX0_init 30 = .ok (.aload_n 0, 1) := by decide +kernel
theorem dX0_init_31 : decode cX0_init 31 = .ok (.iconst 0, 1) := by decide +kernel
theorem dX0_init_32 : decode cX0_init 32 = .ok (.putfield 21, 3) := by decide +kernel
theorem dX0_init_35 : decode cX0_init 35 = .ok (.aload_n 0, 1) := by decide +kernel
theorem dX0_init_36 : decode cX0_init 36 = .ok (.iconst 0, 1) := by decide +kernel
theorem dX0_init_37 : decode cX0_init 37 = .ok (.putfield 25, 3) := by decide +kernel
theorem dX0_init_40 : decode cX0_init 40 = .ok (.return_, 1) := by decide +kernel
def kW_0 (cT : Nat → ClassId) (ad : Nat → Nat) : va_W := [(ad 0, .inr (0, [.ref (ad 1), .ref (ad 2), .ref (ad 3), .int (Int32.ofInt 0), .int (Int32.ofInt 0)])),
  (ad 1, .inl (cT 0, 300, .inl (fun _ => Int32.ofInt 0))),
  (ad 2, .inl (cT 0, 300, .inl (fun _ => Int32.ofInt 0))),
  (ad 3, .inl (cT 0, 30, .inl (fun _ => Int32.ofInt 0)))]
set_option maxHeartbeats 8000000 in
set_option maxRecDepth 100000 in
theorem kn_0 (l : Launch) (cT : Nat → ClassId) (D : va_G) (h0 sz : Nat) : Met l yX0_init (Cond.code yX0_init cX0_init 1 none :: am_WL) (kR_ 1 3 630) (va_Pc [.ref h0] (kP_ cT D h0 sz (.inr (0, [.null, .null, .null, .int (Int32.ofInt 0), .int (Int32.ofInt 0)])))) (kQ_ D (kW_0 cT) h0 sz) 3 630 (fr0 h0 sz) := by
  refine Met.ofW (cc := cX0_init) (maxL := 1) (ret := none) (by decide) rfl ?_
  intro p e s m args below meth c s₁ B hml hv
  obtain ⟨rfl, hsz, hP, hC⟩ := hv
  have hx := B.exec
  have hb := B.bytes
  have hr := B.returns
  have hts0 := atoms_spec (ws := Cond.code yX0_init cX0_init 1 none :: am_WL) B.pre
  have hts : ∀ w ∈ am_WL, w.before ([.ref h0].toArray) s = true := fun w hw => hts0 w (List.mem_cons_of_mem _ hw)
  have hown : s.vm.findClass RX0 = some m.cls := findClass_of_methodNamed B.named
  have hlocks := B.notSynchronized
  have hin : meth.name = "<init>" := (name_of_methodNamed B.named B.method).1
  subst hsz
  have hK := hC.1
  have hA : ∀ q : Nat, s.heap.size ≤ q → fr0 h0 s.heap.size q := fun q h => Or.inr h
  have hD : va_D (fr0 h0 s.heap.size) [(h0, .inr (0, [.null, .null, .null, .int (Int32.ofInt 0), .int (Int32.ofInt 0)]))] := d1_
  have hS : va_S (fr0 h0 s.heap.size) s.heap s.heap [] := va_S.rf
  have hl := lv_entry ([.ref h0]) (n := 1) (Nat.le_of_ble_eq_true rfl)
  rw [lg_entry_eq]
  generalize (lg_sl ([.ref h0]) ++ List.replicate (1 - (lg_sl ([.ref h0])).length) Slot.unset).toArray = ls at hl ⊢
  have hl : lv_has ls 1 [(0, .ref h0)] := hl
  have hD : va_D (fr0 h0 s.heap.size) ((h0, .inr (0, [.null, .null, .null, .int (Int32.ofInt 0), .int (Int32.ofInt 0)])) :: ([] : va_W)) := hD
  have hP : va_P D am_cl ((h0, .inr (0, [.null, .null, .null, .int (Int32.ofInt 0), .int (Int32.ofInt 0)])) :: ([] : va_W)) s.heap := hP
  generalize eX0 : ([] : va_W) = X0 at hP hD
  refine lv_aload_n hx hb dX0_init_0 rfl (lv_at hl 0 rfl) ?_
  refine W.objInit hx hb hown (hts _ (tb_1 (n := 42) rfl rfl)) (hts _ (tb_1 (n := 25) rfl rfl)) (hts (.code objectInit ⟨#[0xb1]⟩ 1 none) (tb_1 (n := 26) rfl rfl)) rfl (by rw [hml]; exact hl.1) rfl dX0_init_1 (Nat.le_of_ble_eq_true rfl) (Nat.le_of_ble_eq_true rfl) ?_
  refine W.eq (g2 := F0 m 4 ls []) rfl ?_
  refine lv_aload_n hx hb dX0_init_4 rfl (lv_at hl 0 rfl) ?_
  refine lv_sipush (v := Int32.ofInt 300) hx hb dX0_init_5 (by decide) ?_
  refine nw_arr (atype := .int) (ty := .int) (t0 := 0) (N' := 300) (a0 := (300, .inl (fun _ => Int32.ofInt 0))) hx hb (hts (.arrayClass .int) (tb_1 (n := 62) rfl rfl)) rfl (fun _ h => h) hK rfl hP hD hS hA (za_int 300) (by decide) rfl (Nat.le_of_ble_eq_true rfl) (Nat.le_of_ble_eq_true rfl) (Nat.le_of_ble_eq_true rfl) dX0_init_8 (fun q8 H hP hD hS => ?_)
  have hP : va_P D am_cl ((h0, .inr (0, [.null, .null, .null, .int (Int32.ofInt 0), .int (Int32.ofInt 0)])) :: (X0 ++ [(q8, .inl (cT 0, 300, .inl (fun _ => Int32.ofInt 0)))])) H := hP
  have hD : va_D (fr0 h0 s.heap.size) ((h0, .inr (0, [.null, .null, .null, .int (Int32.ofInt 0), .int (Int32.ofInt 0)])) :: (X0 ++ [(q8, .inl (cT 0, 300, .inl (fun _ => Int32.ofInt 0)))])) := hD
  generalize eX1 : X0 ++ [(q8, .inl (cT 0, 300, .inl (fun _ => Int32.ofInt 0)))] = X1 at hP hD
  refine va_putF (D := D) (ci := 0) (v := .ref q8) (ty := .array .int) (C := RX0) (T := TX0) (N := 5) hx hb hts am_ws_0 tyX0 tyX0_ok nmX0 hown hK hP hD hS 0 rfl rfl 0 (by decide) (hts _ (tb_1 (n := 43) rfl rfl)) (fun _ h9 => h9) rfl hin rfl (tyX0_ok 0 (by decide)) rfl rfl (Nat.le_of_ble_eq_true rfl) dX0_init_10 (fun H locs hP hD hS => ?_)
  have hP : va_P D am_cl ((h0, .inr (0, [.ref q8, .null, .null, .int (Int32.ofInt 0), .int (Int32.ofInt 0)])) :: X1) H := hP
  have hD : va_D (fr0 h0 s.heap.size) ((h0, .inr (0, [.ref q8, .null, .null, .int (Int32.ofInt 0), .int (Int32.ofInt 0)])) :: X1) := hD
  refine lv_aload_n hx hb dX0_init_13 rfl (lv_at hl 0 rfl) ?_
  refine lv_sipush (v := Int32.ofInt 300) hx hb dX0_init_14 (by decide) ?_
  refine nw_arr (atype := .int) (ty := .int) (t0 := 0) (N' := 300) (a0 := (300, .inl (fun _ => Int32.ofInt 0))) hx hb (hts (.arrayClass .int) (tb_1 (n := 62) rfl rfl)) rfl (fun _ h => h) hK rfl hP hD hS hA (za_int 300) (by decide) rfl (Nat.le_of_ble_eq_true rfl) (Nat.le_of_ble_eq_true rfl) (Nat.le_of_ble_eq_true rfl) dX0_init_17 (fun q17 H hP hD hS => ?_)
  have hP : va_P D am_cl ((h0, .inr (0, [.ref q8, .null, .null, .int (Int32.ofInt 0), .int (Int32.ofInt 0)])) :: (X1 ++ [(q17, .inl (cT 0, 300, .inl (fun _ => Int32.ofInt 0)))])) H := hP
  have hD : va_D (fr0 h0 s.heap.size) ((h0, .inr (0, [.ref q8, .null, .null, .int (Int32.ofInt 0), .int (Int32.ofInt 0)])) :: (X1 ++ [(q17, .inl (cT 0, 300, .inl (fun _ => Int32.ofInt 0)))])) := hD
  generalize eX2 : X1 ++ [(q17, .inl (cT 0, 300, .inl (fun _ => Int32.ofInt 0)))] = X2 at hP hD
  refine va_putF (D := D) (ci := 0) (v := .ref q17) (ty := .array .int) (C := RX0) (T := TX0) (N := 5) hx hb hts am_ws_0 tyX0 tyX0_ok nmX0 hown hK hP hD hS 0 rfl rfl 1 (by decide) (hts _ (tb_1 (n := 44) rfl rfl)) (fun _ h9 => h9) rfl hin rfl (tyX0_ok 1 (by decide)) rfl rfl (Nat.le_of_ble_eq_true rfl) dX0_init_19 (fun H locs hP hD hS => ?_)
  have hP : va_P D am_cl ((h0, .inr (0, [.ref q8, .ref q17, .null, .int (Int32.ofInt 0), .int (Int32.ofInt 0)])) :: X2) H := hP
  have hD : va_D (fr0 h0 s.heap.size) ((h0, .inr (0, [.ref q8, .ref q17, .null, .int (Int32.ofInt 0), .int (Int32.ofInt 0)])) :: X2) := hD
  refine lv_aload_n hx hb dX0_init_22 rfl (lv_at hl 0 rfl) ?_
  refine lv_bipush (v := Int32.ofInt 30) hx hb dX0_init_23 (by decide) ?_
  refine nw_arr (atype := .int) (ty := .int) (t0 := 0) (N' := 30) (a0 := (30, .inl (fun _ => Int32.ofInt 0))) hx hb (hts (.arrayClass .int) (tb_1 (n := 62) rfl rfl)) rfl (fun _ h => h) hK rfl hP hD hS hA (za_int 30) (by decide) rfl (Nat.le_of_ble_eq_true rfl) (Nat.le_of_ble_eq_true rfl) (Nat.le_of_ble_eq_true rfl) dX0_init_25 (fun q25 H hP hD hS => ?_)
  have hP : va_P D am_cl ((h0, .inr (0, [.ref q8, .ref q17, .null, .int (Int32.ofInt 0), .int (Int32.ofInt 0)])) :: (X2 ++ [(q25, .inl (cT 0, 30, .inl (fun _ => Int32.ofInt 0)))])) H := hP
  have hD : va_D (fr0 h0 s.heap.size) ((h0, .inr (0, [.ref q8, .ref q17, .null, .int (Int32.ofInt 0), .int (Int32.ofInt 0)])) :: (X2 ++ [(q25, .inl (cT 0, 30, .inl (fun _ => Int32.ofInt 0)))])) := hD
  generalize eX3 : X2 ++ [(q25, .inl (cT 0, 30, .inl (fun _ => Int32.ofInt 0)))] = X3 at hP hD
  refine va_putF (D := D) (ci := 0) (v := .ref q25) (ty := .array .int) (C := RX0) (T := TX0) (N := 5) hx hb hts am_ws_0 tyX0 tyX0_ok nmX0 hown hK hP hD hS 0 rfl rfl 2 (by decide) (hts _ (tb_1 (n := 45) rfl rfl)) (fun _ h9 => h9) rfl hin rfl (tyX0_ok 2 (by decide)) rfl rfl (Nat.le_of_ble_eq_true rfl) dX0_init_27 (fun H locs hP hD hS => ?_)
  have hP : va_P D am_cl ((h0, .inr (0, [.ref q8, .ref q17, .ref q25, .int (Int32.ofInt 0), .int (Int32.ofInt 0)])) :: X3) H := hP
  have hD : va_D (fr0 h0 s.heap.size) ((h0, .inr (0, [.ref q8, .ref q17, .ref q25, .int (Int32.ofInt 0), .int (Int32.ofInt 0)])) :: X3) := hD
  refine lv_aload_n hx hb dX0_init_30 rfl (lv_at hl 0 rfl) ?_
  refine lv_iconst (v := Int32.ofInt 0) hx hb dX0_init_31 rfl ?_
  refine va_put (D := D) (ci := 0) (v := .int (Int32.ofInt 0)) (ty := .int) (C := RX0) (T := TX0) (N := 5) hx hb hts am_ws_0 tyX0 tyX0_ok nmX0 hown hK hP hD hS 0 rfl rfl 3 (by decide) (hts _ (tb_1 (n := 46) rfl rfl)) (fun _ h9 => h9) rfl (tyX0_ok 3 (by decide)) rfl rfl (Nat.le_of_ble_eq_true rfl) dX0_init_32 (fun H locs hP hD hS => ?_)
  have hP : va_P D am_cl ((h0, .inr (0, [.ref q8, .ref q17, .ref q25, .int (Int32.ofInt 0), .int (Int32.ofInt 0)])) :: X3) H := hP
  have hD : va_D (fr0 h0 s.heap.size) ((h0, .inr (0, [.ref q8, .ref q17, .ref q25, .int (Int32.ofInt 0), .int (Int32.ofInt 0)])) :: X3) := hD
  refine lv_aload_n hx hb dX0_init_35 rfl (lv_at hl 0 rfl) ?_
  refine lv_iconst (v := Int32.ofInt 0) hx hb dX0_init_36 rfl ?_
  refine va_put (D := D) (ci := 0) (v := .int (Int32.ofInt 0)) (ty := .int) (C := RX0) (T := TX0) (N := 5) hx hb hts am_ws_0 tyX0 tyX0_ok nmX0 hown hK hP hD hS 0 rfl rfl 4 (by decide) (hts _ (tb_1 (n := 47) rfl rfl)) (fun _ h9 => h9) rfl (tyX0_ok 4 (by decide)) rfl rfl (Nat.le_of_ble_eq_true rfl) dX0_init_37 (fun H locs hP hD hS => ?_)
  have hP : va_P D am_cl ((h0, .inr (0, [.ref q8, .ref q17, .ref q25, .int (Int32.ofInt 0), .int (Int32.ofInt 0)])) :: X3) H := hP
  have hD : va_D (fr0 h0 s.heap.size) ((h0, .inr (0, [.ref q8, .ref q17, .ref q25, .int (Int32.ofInt 0), .int (Int32.ofInt 0)])) :: X3) := hD
  subst eX3 eX2 eX1 eX0
  refine W.widen (k := 3) (n := 630) (Nat.le_of_ble_eq_true rfl) (Nat.le_of_ble_eq_true rfl) ?_
  exact W.vret hx hb hr (fun t ht hW => ⟨⟨rfl, fun k => ([h0, q8, q17, q25] : List Nat).getD k 0, rfl, by rw [ht]; exact hP, hD⟩, hS.F ht⟩) hS.2.2 dX0_init_40 hlocks
theorem dX2_init_0 : decode cX2_init 0 = .ok (.aload_n 0, 1) := by decide +kernel
theorem dX2_init_1 : decode cX2_init 1 = .ok (.invokespecial 3, 3) := by decide +kernel
theorem dX2_init_4 : decode cX2_init 4 = .ok (.aload_n 0, 1) := by decide +kernel
theorem dX2_init_5 : decode cX2_init 5 = .ok (.bipush 49, 2) := by decide +kernel
theorem dX2_init_7 : decode cX2_init 7 = .ok (.newarray .int, 2) := by decide +kernel
theorem dX2_init_9 : decode cX2_init 9 = .ok (.putfield 9, 3) := by decide +kernel
theorem dX2_init_12 : decode cX2_init 12 = .ok (.aload_n 0, 1) := by decide +kernel
theorem dX2_init_13 : decode cX2_init 13 = .ok (.iconst 0, 1) := by decide +kernel
theorem dX2_init_14 : decode cX2_init 14 = .ok (.putfield 15, 3) := by decide +kernel
theorem dX2_init_17 : decode cX2_init 17 = .ok (.aload_n 0, 1) := by decide +kernel
theorem dX2_init_18 : decode cX2_init 18 = .ok (.aload_n 1, 1) := by decide +kernel
theorem dX2_init_19 : decode cX2_init 19 = .ok (.putfield 19, 3) := by decide +kernel
theorem dX2_init_22 : decode cX2_init 22 = .ok (.return_, 1) := by decide +kernel
def kW_2 (cT : Nat → ClassId) (r1 : Nat) (ad : Nat → Nat) : va_W := [(ad 0, .inr (2, [.ref (ad 1), .ref r1, .int (Int32.ofInt 0)])),
  (ad 1, .inl (cT 0, 49, .inl (fun _ => Int32.ofInt 0)))]
set_option maxHeartbeats 8000000 in
set_option maxRecDepth 100000 in
theorem kn_2 (l : Launch) (cT : Nat → ClassId) (D : va_G) (h0 sz : Nat) (r1 : Nat) : Met l yX2_init (Cond.code yX2_init cX2_init 2 none :: am_WL) (kR_ 1 1 49) (va_Pc [.ref h0, .ref r1] (kP_ cT D h0 sz (.inr (2, [.null, .null, .int (Int32.ofInt 0)])))) (kQ_ D (kW_2 cT r1) h0 sz) 1 49 (fr0 h0 sz) := by
  refine Met.ofW (cc := cX2_init) (maxL := 2) (ret := none) (by decide) rfl ?_
  intro p e s m args below meth c s₁ B hml hv
  obtain ⟨rfl, hsz, hP, hC⟩ := hv
  have hx := B.exec
  have hb := B.bytes
  have hr := B.returns
  have hts0 := atoms_spec (ws := Cond.code yX2_init cX2_init 2 none :: am_WL) B.pre
  have hts : ∀ w ∈ am_WL, w.before ([.ref h0, .ref r1].toArray) s = true := fun w hw => hts0 w (List.mem_cons_of_mem _ hw)
  have hown : s.vm.findClass RX2 = some m.cls := findClass_of_methodNamed B.named
  have hlocks := B.notSynchronized
  have hin : meth.name = "<init>" := (name_of_methodNamed B.named B.method).1
  subst hsz
  have hK := hC.1
  have hA : ∀ q : Nat, s.heap.size ≤ q → fr0 h0 s.heap.size q := fun q h => Or.inr h
  have hD : va_D (fr0 h0 s.heap.size) [(h0, .inr (2, [.null, .null, .int (Int32.ofInt 0)]))] := d1_
  have hS : va_S (fr0 h0 s.heap.size) s.heap s.heap [] := va_S.rf
  have hl := lv_entry ([.ref h0, .ref r1]) (n := 2) (Nat.le_of_ble_eq_true rfl)
  rw [lg_entry_eq]
  generalize (lg_sl ([.ref h0, .ref r1]) ++ List.replicate (2 - (lg_sl ([.ref h0, .ref r1])).length) Slot.unset).toArray = ls at hl ⊢
  have hl : lv_has ls 2 [(0, .ref h0), (1, .ref r1)] := hl
  have hD : va_D (fr0 h0 s.heap.size) ((h0, .inr (2, [.null, .null, .int (Int32.ofInt 0)])) :: ([] : va_W)) := hD
  have hP : va_P D am_cl ((h0, .inr (2, [.null, .null, .int (Int32.ofInt 0)])) :: ([] : va_W)) s.heap := hP
  generalize eX0 : ([] : va_W) = X0 at hP hD
  refine lv_aload_n hx hb dX2_init_0 rfl (lv_at hl 0 rfl) ?_
  refine W.objInit hx hb hown (hts _ (tb_1 (n := 234) rfl rfl)) (hts _ (tb_1 (n := 25) rfl rfl)) (hts (.code objectInit ⟨#[0xb1]⟩ 1 none) (tb_1 (n := 26) rfl rfl)) rfl (by rw [hml]; exact hl.1) rfl dX2_init_1 (Nat.le_of_ble_eq_true rfl) (Nat.le_of_ble_eq_true rfl) ?_
  refine W.eq (g2 := F0 m 4 ls []) rfl ?_
  refine lv_aload_n hx hb dX2_init_4 rfl (lv_at hl 0 rfl) ?_
  refine lv_bipush (v := Int32.ofInt 49) hx hb dX2_init_5 (by decide) ?_
  refine nw_arr (atype := .int) (ty := .int) (t0 := 0) (N' := 49) (a0 := (49, .inl (fun _ => Int32.ofInt 0))) hx hb (hts (.arrayClass .int) (tb_1 (n := 62) rfl rfl)) rfl (fun _ h => h) hK rfl hP hD hS hA (za_int 49) (by decide) rfl (Nat.le_of_ble_eq_true rfl) (Nat.le_of_ble_eq_true rfl) (Nat.le_of_ble_eq_true rfl) dX2_init_7 (fun q7 H hP hD hS => ?_)
  have hP : va_P D am_cl ((h0, .inr (2, [.null, .null, .int (Int32.ofInt 0)])) :: (X0 ++ [(q7, .inl (cT 0, 49, .inl (fun _ => Int32.ofInt 0)))])) H := hP
  have hD : va_D (fr0 h0 s.heap.size) ((h0, .inr (2, [.null, .null, .int (Int32.ofInt 0)])) :: (X0 ++ [(q7, .inl (cT 0, 49, .inl (fun _ => Int32.ofInt 0)))])) := hD
  generalize eX1 : X0 ++ [(q7, .inl (cT 0, 49, .inl (fun _ => Int32.ofInt 0)))] = X1 at hP hD
  refine va_putF (D := D) (ci := 2) (v := .ref q7) (ty := .array .int) (C := RX2) (T := TX2) (N := 3) hx hb hts am_ws_2 tyX2 tyX2_ok nmX2 hown hK hP hD hS 0 rfl rfl 0 (by decide) (hts _ (tb_1 (n := 235) rfl rfl)) (fun _ h9 => h9) rfl hin rfl (tyX2_ok 0 (by decide)) rfl rfl (Nat.le_of_ble_eq_true rfl) dX2_init_9 (fun H locs hP hD hS => ?_)
  have hP : va_P D am_cl ((h0, .inr (2, [.ref q7, .null, .int (Int32.ofInt 0)])) :: X1) H := hP
  have hD : va_D (fr0 h0 s.heap.size) ((h0, .inr (2, [.ref q7, .null, .int (Int32.ofInt 0)])) :: X1) := hD
  refine lv_aload_n hx hb dX2_init_12 rfl (lv_at hl 0 rfl) ?_
  refine lv_iconst (v := Int32.ofInt 0) hx hb dX2_init_13 rfl ?_
  refine va_put (D := D) (ci := 2) (v := .int (Int32.ofInt 0)) (ty := .int) (C := RX2) (T := TX2) (N := 3) hx hb hts am_ws_2 tyX2 tyX2_ok nmX2 hown hK hP hD hS 0 rfl rfl 2 (by decide) (hts _ (tb_2 (n := 2) rfl rfl)) (fun _ h9 => h9) rfl (tyX2_ok 2 (by decide)) rfl rfl (Nat.le_of_ble_eq_true rfl) dX2_init_14 (fun H locs hP hD hS => ?_)
  have hP : va_P D am_cl ((h0, .inr (2, [.ref q7, .null, .int (Int32.ofInt 0)])) :: X1) H := hP
  have hD : va_D (fr0 h0 s.heap.size) ((h0, .inr (2, [.ref q7, .null, .int (Int32.ofInt 0)])) :: X1) := hD
  refine lv_aload_n hx hb dX2_init_17 rfl (lv_at hl 0 rfl) ?_
  refine lv_aload_n hx hb dX2_init_18 rfl (lv_at hl 1 rfl) ?_
  refine va_put (D := D) (ci := 2) (v := .ref r1) (ty := .object "FortyLetters$Town") (C := RX2) (T := TX2) (N := 3) hx hb hts am_ws_2 tyX2 tyX2_ok nmX2 hown hK hP hD hS 0 rfl rfl 1 (by decide) (hts _ (tb_1 (n := 239) rfl rfl)) (fun _ h9 => h9) rfl (tyX2_ok 1 (by decide)) rfl rfl (Nat.le_of_ble_eq_true rfl) dX2_init_19 (fun H locs hP hD hS => ?_)
  have hP : va_P D am_cl ((h0, .inr (2, [.ref q7, .ref r1, .int (Int32.ofInt 0)])) :: X1) H := hP
  have hD : va_D (fr0 h0 s.heap.size) ((h0, .inr (2, [.ref q7, .ref r1, .int (Int32.ofInt 0)])) :: X1) := hD
  subst eX1 eX0
  refine W.widen (k := 1) (n := 49) (Nat.le_of_ble_eq_true rfl) (Nat.le_of_ble_eq_true rfl) ?_
  exact W.vret hx hb hr (fun t ht hW => ⟨⟨rfl, fun k => ([h0, q7] : List Nat).getD k 0, rfl, by rw [ht]; exact hP, hD⟩, hS.F ht⟩) hS.2.2 dX2_init_22 hlocks
theorem dX3_init_0 : decode cX3_init 0 = .ok (.aload_n 0, 1) := by decide +kernel
theorem dX3_init_1 : decode cX3_init 1 = .ok (.invokespecial 3, 3) := by decide +kernel
theorem dX3_init_4 : decode cX3_init 4 = .ok (.aload_n 0, 1) := by decide +kernel
theorem dX3_init_5 : decode cX3_init 5 = .ok (.iconst 4, 1) := by decide +kernel
theorem dX3_init_6 : decode cX3_init 6 = .ok (.newarray .int, 2) := by decide +kernel
theorem dX3_init_8 : decode cX3_init 8 = .ok (.putfield 9, 3) := by decide +kernel
theorem dX3_init_11 : decode cX3_init 11 = .ok (.aload_n 0, 1) := by decide +kernel
theorem dX3_init_12 : decode cX3_init 12 = .ok (.iconst 4, 1) := by decide +kernel
theorem dX3_init_13 : decode cX3_init 13 = .ok (.newarray .int, 2) := by decide +kernel
theorem dX3_init_15 : decode cX3_init 15 = .ok (.putfield 15, 3) := by decide +kernel
theorem dX3_init_18 : decode cX3_init 18 = .ok (.aload_n 0, 1) := by decide +kernel
theorem dX3_init_19 : decode cX3_init 19 = .ok (.iconst 4, 1) := by decide +kernel
theorem dX3_init_20 : decode cX3_init 20 = .ok (.newarray .int, 2) := by decide +kernel
theorem dX3_init_22 : decode cX3_init 22 = .ok (.putfield 18, 3) := by decide +kernel
theorem dX3_init_25 : decode cX3_init 25 = .ok (.aload_n 0, 1) := by decide +kernel
theorem dX3_init_26 : decode cX3_init 26 = .ok (.iconst 0, 1) := by decide +kernel
theorem dX3_init_27 : decode cX3_init 27 = .ok (.putfield 21, 3) := by decide +kernel
theorem dX3_init_30 : decode cX3_init 30 = .ok (.aload_n 0, 1) := by decide +kernel
theorem dX3_init_31 : decode cX3_init 31 = .ok (.iconst 0, 1) := by decide +kernel
theorem dX3_init_32 : decode cX3_init 32 = .ok (.putfield 25, 3) := by decide +kernel
theorem dX3_init_35 : decode cX3_init 35 = .ok (.aload_n 0, 1) := by decide +kernel
theorem dX3_init_36 : decode cX3_init 36 = .ok (.aload_n 1, 1) := by decide +kernel
theorem dX3_init_37 : decode cX3_init 37 = .ok (.putfield 28, 3) := by decide +kernel
theorem dX3_init_40 : decode cX3_init 40 = .ok (.return_, 1) := by decide +kernel
def kW_3 (cT : Nat → ClassId) (r1 : Nat) (ad : Nat → Nat) : va_W := [(ad 0, .inr (3, [.ref (ad 1), .ref (ad 2), .ref (ad 3), .ref r1, .int (Int32.ofInt 0), .int (Int32.ofInt 0)])),
  (ad 1, .inl (cT 0, 4, .inl (fun _ => Int32.ofInt 0))),
  (ad 2, .inl (cT 0, 4, .inl (fun _ => Int32.ofInt 0))),
  (ad 3, .inl (cT 0, 4, .inl (fun _ => Int32.ofInt 0)))]
set_option maxHeartbeats 8000000 in
set_option maxRecDepth 100000 in
theorem kn_3 (l : Launch) (cT : Nat → ClassId) (D : va_G) (h0 sz : Nat) (r1 : Nat) : Met l yX3_init (Cond.code yX3_init cX3_init 2 none :: am_WL) (kR_ 1 3 12) (va_Pc [.ref h0, .ref r1] (kP_ cT D h0 sz (.inr (3, [.null, .null, .null, .null, .int (Int32.ofInt 0), .int (Int32.ofInt 0)])))) (kQ_ D (kW_3 cT r1) h0 sz) 3 12 (fr0 h0 sz) := by
  refine Met.ofW (cc := cX3_init) (maxL := 2) (ret := none) (by decide) rfl ?_
  intro p e s m args below meth c s₁ B hml hv
  obtain ⟨rfl, hsz, hP, hC⟩ := hv
  have hx := B.exec
  have hb := B.bytes
  have hr := B.returns
  have hts0 := atoms_spec (ws := Cond.code yX3_init cX3_init 2 none :: am_WL) B.pre
  have hts : ∀ w ∈ am_WL, w.before ([.ref h0, .ref r1].toArray) s = true := fun w hw => hts0 w (List.mem_cons_of_mem _ hw)
  have hown : s.vm.findClass RX3 = some m.cls := findClass_of_methodNamed B.named
  have hlocks := B.notSynchronized
  have hin : meth.name = "<init>" := (name_of_methodNamed B.named B.method).1
  subst hsz
  have hK := hC.1
  have hA : ∀ q : Nat, s.heap.size ≤ q → fr0 h0 s.heap.size q := fun q h => Or.inr h
  have hD : va_D (fr0 h0 s.heap.size) [(h0, .inr (3, [.null, .null, .null, .null, .int (Int32.ofInt 0), .int (Int32.ofInt 0)]))] := d1_
  have hS : va_S (fr0 h0 s.heap.size) s.heap s.heap [] := va_S.rf
  have hl := lv_entry ([.ref h0, .ref r1]) (n := 2) (Nat.le_of_ble_eq_true rfl)
  rw [lg_entry_eq]
  generalize (lg_sl ([.ref h0, .ref r1]) ++ List.replicate (2 - (lg_sl ([.ref h0, .ref r1])).length) Slot.unset).toArray = ls at hl ⊢
  have hl : lv_has ls 2 [(0, .ref h0), (1, .ref r1)] := hl
  have hD : va_D (fr0 h0 s.heap.size) ((h0, .inr (3, [.null, .null, .null, .null, .int (Int32.ofInt 0), .int (Int32.ofInt 0)])) :: ([] : va_W)) := hD
  have hP : va_P D am_cl ((h0, .inr (3, [.null, .null, .null, .null, .int (Int32.ofInt 0), .int (Int32.ofInt 0)])) :: ([] : va_W)) s.heap := hP
  generalize eX0 : ([] : va_W) = X0 at hP hD
  refine lv_aload_n hx hb dX3_init_0 rfl (lv_at hl 0 rfl) ?_
  refine W.objInit hx hb hown (hts _ (tb_2 (n := 39) rfl rfl)) (hts _ (tb_1 (n := 25) rfl rfl)) (hts (.code objectInit ⟨#[0xb1]⟩ 1 none) (tb_1 (n := 26) rfl rfl)) rfl (by rw [hml]; exact hl.1) rfl dX3_init_1 (Nat.le_of_ble_eq_true rfl) (Nat.le_of_ble_eq_true rfl) ?_
  refine W.eq (g2 := F0 m 4 ls []) rfl ?_
  refine lv_aload_n hx hb dX3_init_4 rfl (lv_at hl 0 rfl) ?_
  refine lv_iconst (v := Int32.ofInt 4) hx hb dX3_init_5 rfl ?_
  refine nw_arr (atype := .int) (ty := .int) (t0 := 0) (N' := 4) (a0 := (4, .inl (fun _ => Int32.ofInt 0))) hx hb (hts (.arrayClass .int) (tb_1 (n := 62) rfl rfl)) rfl (fun _ h => h) hK rfl hP hD hS hA (za_int 4) (by decide) rfl (Nat.le_of_ble_eq_true rfl) (Nat.le_of_ble_eq_true rfl) (Nat.le_of_ble_eq_true rfl) dX3_init_6 (fun q6 H hP hD hS => ?_)
  have hP : va_P D am_cl ((h0, .inr (3, [.null, .null, .null, .null, .int (Int32.ofInt 0), .int (Int32.ofInt 0)])) :: (X0 ++ [(q6, .inl (cT 0, 4, .inl (fun _ => Int32.ofInt 0)))])) H := hP
  have hD : va_D (fr0 h0 s.heap.size) ((h0, .inr (3, [.null, .null, .null, .null, .int (Int32.ofInt 0), .int (Int32.ofInt 0)])) :: (X0 ++ [(q6, .inl (cT 0, 4, .inl (fun _ => Int32.ofInt 0)))])) := hD
  generalize eX1 : X0 ++ [(q6, .inl (cT 0, 4, .inl (fun _ => Int32.ofInt 0)))] = X1 at hP hD
  refine va_putF (D := D) (ci := 3) (v := .ref q6) (ty := .array .int) (C := RX3) (T := TX3) (N := 6) hx hb hts am_ws_3 tyX3 tyX3_ok nmX3 hown hK hP hD hS 0 rfl rfl 0 (by decide) (hts _ (tb_2 (n := 40) rfl rfl)) (fun _ h9 => h9) rfl hin rfl (tyX3_ok 0 (by decide)) rfl rfl (Nat.le_of_ble_eq_true rfl) dX3_init_8 (fun H locs hP hD hS => ?_)
  have hP : va_P D am_cl ((h0, .inr (3, [.ref q6, .null, .null, .null, .int (Int32.ofInt 0), .int (Int32.ofInt 0)])) :: X1) H := hP
  have hD : va_D (fr0 h0 s.heap.size) ((h0, .inr (3, [.ref q6, .null, .null, .null, .int (Int32.ofInt 0), .int (Int32.ofInt 0)])) :: X1) := hD
  refine lv_aload_n hx hb dX3_init_11 rfl (lv_at hl 0 rfl) ?_
  refine lv_iconst (v := Int32.ofInt 4) hx hb dX3_init_12 rfl ?_
  refine nw_arr (atype := .int) (ty := .int) (t0 := 0) (N' := 4) (a0 := (4, .inl (fun _ => Int32.ofInt 0))) hx hb (hts (.arrayClass .int) (tb_1 (n := 62) rfl rfl)) rfl (fun _ h => h) hK rfl hP hD hS hA (za_int 4) (by decide) rfl (Nat.le_of_ble_eq_true rfl) (Nat.le_of_ble_eq_true rfl) (Nat.le_of_ble_eq_true rfl) dX3_init_13 (fun q13 H hP hD hS => ?_)
  have hP : va_P D am_cl ((h0, .inr (3, [.ref q6, .null, .null, .null, .int (Int32.ofInt 0), .int (Int32.ofInt 0)])) :: (X1 ++ [(q13, .inl (cT 0, 4, .inl (fun _ => Int32.ofInt 0)))])) H := hP
  have hD : va_D (fr0 h0 s.heap.size) ((h0, .inr (3, [.ref q6, .null, .null, .null, .int (Int32.ofInt 0), .int (Int32.ofInt 0)])) :: (X1 ++ [(q13, .inl (cT 0, 4, .inl (fun _ => Int32.ofInt 0)))])) := hD
  generalize eX2 : X1 ++ [(q13, .inl (cT 0, 4, .inl (fun _ => Int32.ofInt 0)))] = X2 at hP hD
  refine va_putF (D := D) (ci := 3) (v := .ref q13) (ty := .array .int) (C := RX3) (T := TX3) (N := 6) hx hb hts am_ws_3 tyX3 tyX3_ok nmX3 hown hK hP hD hS 0 rfl rfl 1 (by decide) (hts _ (tb_2 (n := 42) rfl rfl)) (fun _ h9 => h9) rfl hin rfl (tyX3_ok 1 (by decide)) rfl rfl (Nat.le_of_ble_eq_true rfl) dX3_init_15 (fun H locs hP hD hS => ?_)
  have hP : va_P D am_cl ((h0, .inr (3, [.ref q6, .ref q13, .null, .null, .int (Int32.ofInt 0), .int (Int32.ofInt 0)])) :: X2) H := hP
  have hD : va_D (fr0 h0 s.heap.size) ((h0, .inr (3, [.ref q6, .ref q13, .null, .null, .int (Int32.ofInt 0), .int (Int32.ofInt 0)])) :: X2) := hD
  refine lv_aload_n hx hb dX3_init_18 rfl (lv_at hl 0 rfl) ?_
  refine lv_iconst (v := Int32.ofInt 4) hx hb dX3_init_19 rfl ?_
  refine nw_arr (atype := .int) (ty := .int) (t0 := 0) (N' := 4) (a0 := (4, .inl (fun _ => Int32.ofInt 0))) hx hb (hts (.arrayClass .int) (tb_1 (n := 62) rfl rfl)) rfl (fun _ h => h) hK rfl hP hD hS hA (za_int 4) (by decide) rfl (Nat.le_of_ble_eq_true rfl) (Nat.le_of_ble_eq_true rfl) (Nat.le_of_ble_eq_true rfl) dX3_init_20 (fun q20 H hP hD hS => ?_)
  have hP : va_P D am_cl ((h0, .inr (3, [.ref q6, .ref q13, .null, .null, .int (Int32.ofInt 0), .int (Int32.ofInt 0)])) :: (X2 ++ [(q20, .inl (cT 0, 4, .inl (fun _ => Int32.ofInt 0)))])) H := hP
  have hD : va_D (fr0 h0 s.heap.size) ((h0, .inr (3, [.ref q6, .ref q13, .null, .null, .int (Int32.ofInt 0), .int (Int32.ofInt 0)])) :: (X2 ++ [(q20, .inl (cT 0, 4, .inl (fun _ => Int32.ofInt 0)))])) := hD
  generalize eX3 : X2 ++ [(q20, .inl (cT 0, 4, .inl (fun _ => Int32.ofInt 0)))] = X3 at hP hD
  refine va_putF (D := D) (ci := 3) (v := .ref q20) (ty := .array .int) (C := RX3) (T := TX3) (N := 6) hx hb hts am_ws_3 tyX3 tyX3_ok nmX3 hown hK hP hD hS 0 rfl rfl 2 (by decide) (hts _ (tb_2 (n := 43) rfl rfl)) (fun _ h9 => h9) rfl hin rfl (tyX3_ok 2 (by decide)) rfl rfl (Nat.le_of_ble_eq_true rfl) dX3_init_22 (fun H locs hP hD hS => ?_)
  have hP : va_P D am_cl ((h0, .inr (3, [.ref q6, .ref q13, .ref q20, .null, .int (Int32.ofInt 0), .int (Int32.ofInt 0)])) :: X3) H := hP
  have hD : va_D (fr0 h0 s.heap.size) ((h0, .inr (3, [.ref q6, .ref q13, .ref q20, .null, .int (Int32.ofInt 0), .int (Int32.ofInt 0)])) :: X3) := hD
  refine lv_aload_n hx hb dX3_init_25 rfl (lv_at hl 0 rfl) ?_
  refine lv_iconst (v := Int32.ofInt 0) hx hb dX3_init_26 rfl ?_
  refine va_put (D := D) (ci := 3) (v := .int (Int32.ofInt 0)) (ty := .int) (C := RX3) (T := TX3) (N := 6) hx hb hts am_ws_3 tyX3 tyX3_ok nmX3 hown hK hP hD hS 0 rfl rfl 4 (by decide) (hts _ (tb_2 (n := 45) rfl rfl)) (fun _ h9 => h9) rfl (tyX3_ok 4 (by decide)) rfl rfl (Nat.le_of_ble_eq_true rfl) dX3_init_27 (fun H locs hP hD hS => ?_)
  have hP : va_P D am_cl ((h0, .inr (3, [.ref q6, .ref q13, .ref q20, .null, .int (Int32.ofInt 0), .int (Int32.ofInt 0)])) :: X3) H := hP
  have hD : va_D (fr0 h0 s.heap.size) ((h0, .inr (3, [.ref q6, .ref q13, .ref q20, .null, .int (Int32.ofInt 0), .int (Int32.ofInt 0)])) :: X3) := hD
  refine lv_aload_n hx hb dX3_init_30 rfl (lv_at hl 0 rfl) ?_
  refine lv_iconst (v := Int32.ofInt 0) hx hb dX3_init_31 rfl ?_
  refine va_put (D := D) (ci := 3) (v := .int (Int32.ofInt 0)) (ty := .int) (C := RX3) (T := TX3) (N := 6) hx hb hts am_ws_3 tyX3 tyX3_ok nmX3 hown hK hP hD hS 0 rfl rfl 5 (by decide) (hts _ (tb_2 (n := 46) rfl rfl)) (fun _ h9 => h9) rfl (tyX3_ok 5 (by decide)) rfl rfl (Nat.le_of_ble_eq_true rfl) dX3_init_32 (fun H locs hP hD hS => ?_)
  have hP : va_P D am_cl ((h0, .inr (3, [.ref q6, .ref q13, .ref q20, .null, .int (Int32.ofInt 0), .int (Int32.ofInt 0)])) :: X3) H := hP
  have hD : va_D (fr0 h0 s.heap.size) ((h0, .inr (3, [.ref q6, .ref q13, .ref q20, .null, .int (Int32.ofInt 0), .int (Int32.ofInt 0)])) :: X3) := hD
  refine lv_aload_n hx hb dX3_init_35 rfl (lv_at hl 0 rfl) ?_
  refine lv_aload_n hx hb dX3_init_36 rfl (lv_at hl 1 rfl) ?_
  refine va_putF (D := D) (ci := 3) (v := .ref r1) (ty := .object "FortyLetters$Play") (C := RX3) (T := TX3) (N := 6) hx hb hts am_ws_3 tyX3 tyX3_ok nmX3 hown hK hP hD hS 0 rfl rfl 3 (by decide) (hts _ (tb_2 (n := 44) rfl rfl)) (fun _ h9 => h9) rfl hin rfl (tyX3_ok 3 (by decide)) rfl rfl (Nat.le_of_ble_eq_true rfl) dX3_init_37 (fun H locs hP hD hS => ?_)
  have hP : va_P D am_cl ((h0, .inr (3, [.ref q6, .ref q13, .ref q20, .ref r1, .int (Int32.ofInt 0), .int (Int32.ofInt 0)])) :: X3) H := hP
  have hD : va_D (fr0 h0 s.heap.size) ((h0, .inr (3, [.ref q6, .ref q13, .ref q20, .ref r1, .int (Int32.ofInt 0), .int (Int32.ofInt 0)])) :: X3) := hD
  subst eX3 eX2 eX1 eX0
  refine W.widen (k := 3) (n := 12) (Nat.le_of_ble_eq_true rfl) (Nat.le_of_ble_eq_true rfl) ?_
  exact W.vret hx hb hr (fun t ht hW => ⟨⟨rfl, fun k => ([h0, q6, q13, q20] : List Nat).getD k 0, rfl, by rw [ht]; exact hP, hD⟩, hS.F ht⟩) hS.2.2 dX3_init_40 hlocks
theorem dX5_init_0 : decode cX5_init 0 = .ok (.aload_n 0, 1) := by decide +kernel
theorem dX5_init_1 : decode cX5_init 1 = .ok (.invokespecial 3, 3) := by decide +kernel
theorem dX5_init_4 : decode cX5_init 4 = .ok (.aload_n 0, 1) := by decide +kernel
theorem dX5_init_5 : decode cX5_init 5 = .ok (.bipush 6, 2) := by decide +kernel
theorem dX5_init_7 : decode cX5_init 7 = .ok (.newarray .int, 2) := by decide +kernel
theorem dX5_init_9 : decode cX5_init 9 = .ok (.putfield 9, 3) := by decide +kernel
theorem dX5_init_12 : decode cX5_init 12 = .ok (.aload_n 0, 1) := by decide +kernel
theorem dX5_init_13 : decode cX5_init 13 = .ok (.bipush 6, 2) := by decide +kernel
theorem dX5_init_15 : decode cX5_init 15 = .ok (.newarray .int, 2) := by decide +kernel
theorem dX5_init_17 : decode cX5_init 17 = .ok (.putfield 15, 3) := by decide +kernel
theorem dX5_init_20 : decode cX5_init 20 = .ok (.aload_n 0, 1) := by decide +kernel
theorem dX5_init_21 : decode cX5_init 21 = .ok (.bipush 6, 2) := by decide +kernel
theorem dX5_init_23 : decode cX5_init 23 = .ok (.newarray .int, 2) := by decide +kernel
theorem dX5_init_25 : decode cX5_init 25 = .ok (.putfield 18, 3) := by decide +kernel
theorem dX5_init_28 : decode cX5_init 28 = .ok (.aload_n 0, 1) := by decide +kernel
theorem dX5_init_29 : decode cX5_init 29 = .ok (.iconst 0, 1) := by decide +kernel
theorem dX5_init_30 : decode cX5_init 30 = .ok (.putfield 21, 3) := by decide +kernel
theorem dX5_init_33 : decode cX5_init 33 = .ok (.aload_n 0, 1) := by decide +kernel
theorem dX5_init_34 : decode cX5_init 34 = .ok (.aload_n 1, 1) := by decide +kernel
theorem dX5_init_35 : decode cX5_init 35 = .ok (.putfield 25, 3) := by decide +kernel
theorem dX5_init_38 : decode cX5_init 38 = .ok (.return_, 1) := by decide +kernel
def kW_5 (cT : Nat → ClassId) (r1 : Nat) (ad : Nat → Nat) : va_W := [(ad 0, .inr (5, [.ref (ad 1), .ref (ad 2), .ref (ad 3), .ref r1, .int (Int32.ofInt 0)])),
  (ad 1, .inl (cT 0, 6, .inl (fun _ => Int32.ofInt 0))),
  (ad 2, .inl (cT 0, 6, .inl (fun _ => Int32.ofInt 0))),
  (ad 3, .inl (cT 0, 6, .inl (fun _ => Int32.ofInt 0)))]
set_option maxHeartbeats 8000000 in
set_option maxRecDepth 100000 in
theorem kn_5 (l : Launch) (cT : Nat → ClassId) (D : va_G) (h0 sz : Nat) (r1 : Nat) : Met l yX5_init (Cond.code yX5_init cX5_init 2 none :: am_WL) (kR_ 1 3 18) (va_Pc [.ref h0, .ref r1] (kP_ cT D h0 sz (.inr (5, [.null, .null, .null, .null, .int (Int32.ofInt 0)])))) (kQ_ D (kW_5 cT r1) h0 sz) 3 18 (fr0 h0 sz) := by
  refine Met.ofW (cc := cX5_init) (maxL := 2) (ret := none) (by decide) rfl ?_
  intro p e s m args below meth c s₁ B hml hv
  obtain ⟨rfl, hsz, hP, hC⟩ := hv
  have hx := B.exec
  have hb := B.bytes
  have hr := B.returns
  have hts0 := atoms_spec (ws := Cond.code yX5_init cX5_init 2 none :: am_WL) B.pre
  have hts : ∀ w ∈ am_WL, w.before ([.ref h0, .ref r1].toArray) s = true := fun w hw => hts0 w (List.mem_cons_of_mem _ hw)
  have hown : s.vm.findClass RX5 = some m.cls := findClass_of_methodNamed B.named
  have hlocks := B.notSynchronized
  have hin : meth.name = "<init>" := (name_of_methodNamed B.named B.method).1
  subst hsz
  have hK := hC.1
  have hA : ∀ q : Nat, s.heap.size ≤ q → fr0 h0 s.heap.size q := fun q h => Or.inr h
  have hD : va_D (fr0 h0 s.heap.size) [(h0, .inr (5, [.null, .null, .null, .null, .int (Int32.ofInt 0)]))] := d1_
  have hS : va_S (fr0 h0 s.heap.size) s.heap s.heap [] := va_S.rf
  have hl := lv_entry ([.ref h0, .ref r1]) (n := 2) (Nat.le_of_ble_eq_true rfl)
  rw [lg_entry_eq]
  generalize (lg_sl ([.ref h0, .ref r1]) ++ List.replicate (2 - (lg_sl ([.ref h0, .ref r1])).length) Slot.unset).toArray = ls at hl ⊢
  have hl : lv_has ls 2 [(0, .ref h0), (1, .ref r1)] := hl
  have hD : va_D (fr0 h0 s.heap.size) ((h0, .inr (5, [.null, .null, .null, .null, .int (Int32.ofInt 0)])) :: ([] : va_W)) := hD
  have hP : va_P D am_cl ((h0, .inr (5, [.null, .null, .null, .null, .int (Int32.ofInt 0)])) :: ([] : va_W)) s.heap := hP
  generalize eX0 : ([] : va_W) = X0 at hP hD
  refine lv_aload_n hx hb dX5_init_0 rfl (lv_at hl 0 rfl) ?_
  refine W.objInit hx hb hown (hts _ (tb_2 (n := 65) rfl rfl)) (hts _ (tb_1 (n := 25) rfl rfl)) (hts (.code objectInit ⟨#[0xb1]⟩ 1 none) (tb_1 (n := 26) rfl rfl)) rfl (by rw [hml]; exact hl.1) rfl dX5_init_1 (Nat.le_of_ble_eq_true rfl) (Nat.le_of_ble_eq_true rfl) ?_
  refine W.eq (g2 := F0 m 4 ls []) rfl ?_
  refine lv_aload_n hx hb dX5_init_4 rfl (lv_at hl 0 rfl) ?_
  refine lv_bipush (v := Int32.ofInt 6) hx hb dX5_init_5 (by decide) ?_
  refine nw_arr (atype := .int) (ty := .int) (t0 := 0) (N' := 6) (a0 := (6, .inl (fun _ => Int32.ofInt 0))) hx hb (hts (.arrayClass .int) (tb_1 (n := 62) rfl rfl)) rfl (fun _ h => h) hK rfl hP hD hS hA (za_int 6) (by decide) rfl (Nat.le_of_ble_eq_true rfl) (Nat.le_of_ble_eq_true rfl) (Nat.le_of_ble_eq_true rfl) dX5_init_7 (fun q7 H hP hD hS => ?_)
  have hP : va_P D am_cl ((h0, .inr (5, [.null, .null, .null, .null, .int (Int32.ofInt 0)])) :: (X0 ++ [(q7, .inl (cT 0, 6, .inl (fun _ => Int32.ofInt 0)))])) H := hP
  have hD : va_D (fr0 h0 s.heap.size) ((h0, .inr (5, [.null, .null, .null, .null, .int (Int32.ofInt 0)])) :: (X0 ++ [(q7, .inl (cT 0, 6, .inl (fun _ => Int32.ofInt 0)))])) := hD
  generalize eX1 : X0 ++ [(q7, .inl (cT 0, 6, .inl (fun _ => Int32.ofInt 0)))] = X1 at hP hD
  refine va_putF (D := D) (ci := 5) (v := .ref q7) (ty := .array .int) (C := RX5) (T := TX5) (N := 5) hx hb hts am_ws_5 tyX5 tyX5_ok nmX5 hown hK hP hD hS 0 rfl rfl 0 (by decide) (hts _ (tb_2 (n := 66) rfl rfl)) (fun _ h9 => h9) rfl hin rfl (tyX5_ok 0 (by decide)) rfl rfl (Nat.le_of_ble_eq_true rfl) dX5_init_9 (fun H locs hP hD hS => ?_)
  have hP : va_P D am_cl ((h0, .inr (5, [.ref q7, .null, .null, .null, .int (Int32.ofInt 0)])) :: X1) H := hP
  have hD : va_D (fr0 h0 s.heap.size) ((h0, .inr (5, [.ref q7, .null, .null, .null, .int (Int32.ofInt 0)])) :: X1) := hD
  refine lv_aload_n hx hb dX5_init_12 rfl (lv_at hl 0 rfl) ?_
  refine lv_bipush (v := Int32.ofInt 6) hx hb dX5_init_13 (by decide) ?_
  refine nw_arr (atype := .int) (ty := .int) (t0 := 0) (N' := 6) (a0 := (6, .inl (fun _ => Int32.ofInt 0))) hx hb (hts (.arrayClass .int) (tb_1 (n := 62) rfl rfl)) rfl (fun _ h => h) hK rfl hP hD hS hA (za_int 6) (by decide) rfl (Nat.le_of_ble_eq_true rfl) (Nat.le_of_ble_eq_true rfl) (Nat.le_of_ble_eq_true rfl) dX5_init_15 (fun q15 H hP hD hS => ?_)
  have hP : va_P D am_cl ((h0, .inr (5, [.ref q7, .null, .null, .null, .int (Int32.ofInt 0)])) :: (X1 ++ [(q15, .inl (cT 0, 6, .inl (fun _ => Int32.ofInt 0)))])) H := hP
  have hD : va_D (fr0 h0 s.heap.size) ((h0, .inr (5, [.ref q7, .null, .null, .null, .int (Int32.ofInt 0)])) :: (X1 ++ [(q15, .inl (cT 0, 6, .inl (fun _ => Int32.ofInt 0)))])) := hD
  generalize eX2 : X1 ++ [(q15, .inl (cT 0, 6, .inl (fun _ => Int32.ofInt 0)))] = X2 at hP hD
  refine va_putF (D := D) (ci := 5) (v := .ref q15) (ty := .array .int) (C := RX5) (T := TX5) (N := 5) hx hb hts am_ws_5 tyX5 tyX5_ok nmX5 hown hK hP hD hS 0 rfl rfl 1 (by decide) (hts _ (tb_2 (n := 68) rfl rfl)) (fun _ h9 => h9) rfl hin rfl (tyX5_ok 1 (by decide)) rfl rfl (Nat.le_of_ble_eq_true rfl) dX5_init_17 (fun H locs hP hD hS => ?_)
  have hP : va_P D am_cl ((h0, .inr (5, [.ref q7, .ref q15, .null, .null, .int (Int32.ofInt 0)])) :: X2) H := hP
  have hD : va_D (fr0 h0 s.heap.size) ((h0, .inr (5, [.ref q7, .ref q15, .null, .null, .int (Int32.ofInt 0)])) :: X2) := hD
  refine lv_aload_n hx hb dX5_init_20 rfl (lv_at hl 0 rfl) ?_
  refine lv_bipush (v := Int32.ofInt 6) hx hb dX5_init_21 (by decide) ?_
  refine nw_arr (atype := .int) (ty := .int) (t0 := 0) (N' := 6) (a0 := (6, .inl (fun _ => Int32.ofInt 0))) hx hb (hts (.arrayClass .int) (tb_1 (n := 62) rfl rfl)) rfl (fun _ h => h) hK rfl hP hD hS hA (za_int 6) (by decide) rfl (Nat.le_of_ble_eq_true rfl) (Nat.le_of_ble_eq_true rfl) (Nat.le_of_ble_eq_true rfl) dX5_init_23 (fun q23 H hP hD hS => ?_)
  have hP : va_P D am_cl ((h0, .inr (5, [.ref q7, .ref q15, .null, .null, .int (Int32.ofInt 0)])) :: (X2 ++ [(q23, .inl (cT 0, 6, .inl (fun _ => Int32.ofInt 0)))])) H := hP
  have hD : va_D (fr0 h0 s.heap.size) ((h0, .inr (5, [.ref q7, .ref q15, .null, .null, .int (Int32.ofInt 0)])) :: (X2 ++ [(q23, .inl (cT 0, 6, .inl (fun _ => Int32.ofInt 0)))])) := hD
  generalize eX3 : X2 ++ [(q23, .inl (cT 0, 6, .inl (fun _ => Int32.ofInt 0)))] = X3 at hP hD
  refine va_putF (D := D) (ci := 5) (v := .ref q23) (ty := .array .int) (C := RX5) (T := TX5) (N := 5) hx hb hts am_ws_5 tyX5 tyX5_ok nmX5 hown hK hP hD hS 0 rfl rfl 2 (by decide) (hts _ (tb_2 (n := 69) rfl rfl)) (fun _ h9 => h9) rfl hin rfl (tyX5_ok 2 (by decide)) rfl rfl (Nat.le_of_ble_eq_true rfl) dX5_init_25 (fun H locs hP hD hS => ?_)
  have hP : va_P D am_cl ((h0, .inr (5, [.ref q7, .ref q15, .ref q23, .null, .int (Int32.ofInt 0)])) :: X3) H := hP
  have hD : va_D (fr0 h0 s.heap.size) ((h0, .inr (5, [.ref q7, .ref q15, .ref q23, .null, .int (Int32.ofInt 0)])) :: X3) := hD
  refine lv_aload_n hx hb dX5_init_28 rfl (lv_at hl 0 rfl) ?_
  refine lv_iconst (v := Int32.ofInt 0) hx hb dX5_init_29 rfl ?_
  refine va_put (D := D) (ci := 5) (v := .int (Int32.ofInt 0)) (ty := .int) (C := RX5) (T := TX5) (N := 5) hx hb hts am_ws_5 tyX5 tyX5_ok nmX5 hown hK hP hD hS 0 rfl rfl 4 (by decide) (hts _ (tb_2 (n := 71) rfl rfl)) (fun _ h9 => h9) rfl (tyX5_ok 4 (by decide)) rfl rfl (Nat.le_of_ble_eq_true rfl) dX5_init_30 (fun H locs hP hD hS => ?_)
  have hP : va_P D am_cl ((h0, .inr (5, [.ref q7, .ref q15, .ref q23, .null, .int (Int32.ofInt 0)])) :: X3) H := hP
  have hD : va_D (fr0 h0 s.heap.size) ((h0, .inr (5, [.ref q7, .ref q15, .ref q23, .null, .int (Int32.ofInt 0)])) :: X3) := hD
  refine lv_aload_n hx hb dX5_init_33 rfl (lv_at hl 0 rfl) ?_
  refine lv_aload_n hx hb dX5_init_34 rfl (lv_at hl 1 rfl) ?_
  refine va_putF (D := D) (ci := 5) (v := .ref r1) (ty := .object "FortyLetters$Play") (C := RX5) (T := TX5) (N := 5) hx hb hts am_ws_5 tyX5 tyX5_ok nmX5 hown hK hP hD hS 0 rfl rfl 3 (by decide) (hts _ (tb_2 (n := 70) rfl rfl)) (fun _ h9 => h9) rfl hin rfl (tyX5_ok 3 (by decide)) rfl rfl (Nat.le_of_ble_eq_true rfl) dX5_init_35 (fun H locs hP hD hS => ?_)
  have hP : va_P D am_cl ((h0, .inr (5, [.ref q7, .ref q15, .ref q23, .ref r1, .int (Int32.ofInt 0)])) :: X3) H := hP
  have hD : va_D (fr0 h0 s.heap.size) ((h0, .inr (5, [.ref q7, .ref q15, .ref q23, .ref r1, .int (Int32.ofInt 0)])) :: X3) := hD
  subst eX3 eX2 eX1 eX0
  refine W.widen (k := 3) (n := 18) (Nat.le_of_ble_eq_true rfl) (Nat.le_of_ble_eq_true rfl) ?_
  exact W.vret hx hb hr (fun t ht hW => ⟨⟨rfl, fun k => ([h0, q7, q15, q23] : List Nat).getD k 0, rfl, by rw [ht]; exact hP, hD⟩, hS.F ht⟩) hS.2.2 dX5_init_38 hlocks
theorem dX6_init_0 : decode cX6_init 0 = .ok (.aload_n 0, 1) := by decide +kernel
theorem dX6_init_1 : decode cX6_init 1 = .ok (.invokespecial 3, 3) := by decide +kernel
theorem dX6_init_4 : decode cX6_init 4 = .ok (.aload_n 0, 1) := by decide +kernel
theorem dX6_init_5 : decode cX6_init 5 = .ok (.iconst 0, 1) := by decide +kernel
theorem dX6_init_6 : decode cX6_init 6 = .ok (.putfield 9, 3) := by decide +kernel
theorem dX6_init_9 : decode cX6_init 9 = .ok (.aload_n 0, 1) := by decide +kernel
theorem dX6_init_10 : decode cX6_init 10 = .ok (.bipush 30, 2) := by decide +kernel
theorem dX6_init_12 : decode cX6_init 12 = .ok (.newarray .int, 2) := by decide +kernel
theorem dX6_init_14 : decode cX6_init 14 = .ok (.putfield 15, 3) := by decide +kernel
theorem dX6_init_17 : decode cX6_init 17 = .ok (.aload_n 0, 1) := by decide +kernel
theorem dX6_init_18 : decode cX6_init 18 = .ok (.bipush 30, 2) := by decide +kernel
theorem dX6_init_20 : decode cX6_init 20 = .ok (.newarray .int, 2) := by decide +kernel
theorem dX6_init_22 : decode cX6_init 22 = .ok (.putfield 19, 3) := by decide +kernel
theorem dX6_init_25 : decode cX6_init 25 = .ok (.aload_n 0, 1) := by decide +kernel
theorem dX6_init_26 : decode cX6_init 26 = .ok (.bipush 30, 2) := by decide +kernel
theorem dX6_init_28 : decode cX6_init 28 = .ok (.newarray .int, 2) := by decide +kernel
theorem dX6_init_30 : decode cX6_init 30 = .ok (.putfield 22, 3) := by decide +kernel
theorem dX6_init_33 : decode cX6_init 33 = .ok (.aload_n 0, 1) := by decide +kernel
theorem dX6_init_34 : decode cX6_init 34 = .ok (.bipush 30, 2) := by decide +kernel
theorem dX6_init_36 : decode cX6_init 36 = .ok (.newarray .boolean, 2) := by decide +kernel
theorem dX6_init_38 : decode cX6_init 38 = .ok (.putfield 25, 3) := by decide +kernel
theorem dX6_init_41 : decode cX6_init 41 = .ok (.aload_n 0, 1) := by decide +kernel
theorem dX6_init_42 : decode cX6_init 42 = .ok (.bipush 30, 2) := by decide +kernel
theorem dX6_init_44 : decode cX6_init 44 = .ok (.newarray .int, 2) := by decide +kernel
theorem dX6_init_46 : decode cX6_init 46 = .ok (.putfield 29, 3) := by decide +kernel
theorem dX6_init_49 : decode cX6_init 49 = .ok (.aload_n 0, 1) := by decide +kernel
theorem dX6_init_50 : decode cX6_init 50 = .ok (.bipush 30, 2) := by decide +kernel
theorem dX6_init_52 : decode cX6_init 52 = .ok (.newarray .int, 2) := by decide +kernel
theorem dX6_init_54 : decode cX6_init 54 = .ok (.putfield 32, 3) := by decide +kernel
theorem dX6_init_57 : decode cX6_init 57 = .ok (.return_, 1) := by decide +kernel
def kW_6 (cT : Nat → ClassId) (ad : Nat → Nat) : va_W := [(ad 0, .inr (6, [.int (Int32.ofInt 0), .ref (ad 1), .ref (ad 2), .ref (ad 3), .ref (ad 4), .ref (ad 5), .ref (ad 6)])),
  (ad 1, .inl (cT 0, 30, .inl (fun _ => Int32.ofInt 0))),
  (ad 2, .inl (cT 0, 30, .inl (fun _ => Int32.ofInt 0))),
  (ad 3, .inl (cT 0, 30, .inl (fun _ => Int32.ofInt 0))),
  (ad 4, .inl (cT 2, 30, .inl (fun _ => Int32.ofInt 0))),
  (ad 5, .inl (cT 0, 30, .inl (fun _ => Int32.ofInt 0))),
  (ad 6, .inl (cT 0, 30, .inl (fun _ => Int32.ofInt 0)))]
set_option maxHeartbeats 8000000 in
set_option maxRecDepth 100000 in
theorem kn_6 (l : Launch) (cT : Nat → ClassId) (D : va_G) (h0 sz : Nat) : Met l yX6_init (Cond.code yX6_init cX6_init 1 none :: am_WL) (kR_ 1 6 180) (va_Pc [.ref h0] (kP_ cT D h0 sz (.inr (6, [.int (Int32.ofInt 0), .null, .null, .null, .null, .null, .null])))) (kQ_ D (kW_6 cT) h0 sz) 6 180 (fr0 h0 sz) := by
  refine Met.ofW (cc := cX6_init) (maxL := 1) (ret := none) (by decide) rfl ?_
  intro p e s m args below meth c s₁ B hml hv
  obtain ⟨rfl, hsz, hP, hC⟩ := hv
  have hx := B.exec
  have hb := B.bytes
  have hr := B.returns
  have hts0 := atoms_spec (ws := Cond.code yX6_init cX6_init 1 none :: am_WL) B.pre
  have hts : ∀ w ∈ am_WL, w.before ([.ref h0].toArray) s = true := fun w hw => hts0 w (List.mem_cons_of_mem _ hw)
  have hown : s.vm.findClass RX6 = some m.cls := findClass_of_methodNamed B.named
  have hlocks := B.notSynchronized
  have hin : meth.name = "<init>" := (name_of_methodNamed B.named B.method).1
  subst hsz
  have hK := hC.1
  have hA : ∀ q : Nat, s.heap.size ≤ q → fr0 h0 s.heap.size q := fun q h => Or.inr h
  have hD : va_D (fr0 h0 s.heap.size) [(h0, .inr (6, [.int (Int32.ofInt 0), .null, .null, .null, .null, .null, .null]))] := d1_
  have hS : va_S (fr0 h0 s.heap.size) s.heap s.heap [] := va_S.rf
  have hl := lv_entry ([.ref h0]) (n := 1) (Nat.le_of_ble_eq_true rfl)
  rw [lg_entry_eq]
  generalize (lg_sl ([.ref h0]) ++ List.replicate (1 - (lg_sl ([.ref h0])).length) Slot.unset).toArray = ls at hl ⊢
  have hl : lv_has ls 1 [(0, .ref h0)] := hl
  have hD : va_D (fr0 h0 s.heap.size) ((h0, .inr (6, [.int (Int32.ofInt 0), .null, .null, .null, .null, .null, .null])) :: ([] : va_W)) := hD
  have hP : va_P D am_cl ((h0, .inr (6, [.int (Int32.ofInt 0), .null, .null, .null, .null, .null, .null])) :: ([] : va_W)) s.heap := hP
  generalize eX0 : ([] : va_W) = X0 at hP hD
  refine lv_aload_n hx hb dX6_init_0 rfl (lv_at hl 0 rfl) ?_
  refine W.objInit hx hb hown (hts _ (tb_2 (n := 88) rfl rfl)) (hts _ (tb_1 (n := 25) rfl rfl)) (hts (.code objectInit ⟨#[0xb1]⟩ 1 none) (tb_1 (n := 26) rfl rfl)) rfl (by rw [hml]; exact hl.1) rfl dX6_init_1 (Nat.le_of_ble_eq_true rfl) (Nat.le_of_ble_eq_true rfl) ?_
  refine W.eq (g2 := F0 m 4 ls []) rfl ?_
  refine lv_aload_n hx hb dX6_init_4 rfl (lv_at hl 0 rfl) ?_
  refine lv_iconst (v := Int32.ofInt 0) hx hb dX6_init_5 rfl ?_
  refine va_put (D := D) (ci := 6) (v := .int (Int32.ofInt 0)) (ty := .int) (C := RX6) (T := TX6) (N := 7) hx hb hts am_ws_6 tyX6 tyX6_ok nmX6 hown hK hP hD hS 0 rfl rfl 0 (by decide) (hts _ (tb_2 (n := 89) rfl rfl)) (fun _ h9 => h9) rfl (tyX6_ok 0 (by decide)) rfl rfl (Nat.le_of_ble_eq_true rfl) dX6_init_6 (fun H locs hP hD hS => ?_)
  have hP : va_P D am_cl ((h0, .inr (6, [.int (Int32.ofInt 0), .null, .null, .null, .null, .null, .null])) :: X0) H := hP
  have hD : va_D (fr0 h0 s.heap.size) ((h0, .inr (6, [.int (Int32.ofInt 0), .null, .null, .null, .null, .null, .null])) :: X0) := hD
  refine lv_aload_n hx hb dX6_init_9 rfl (lv_at hl 0 rfl) ?_
  refine lv_bipush (v := Int32.ofInt 30) hx hb dX6_init_10 (by decide) ?_
  refine nw_arr (atype := .int) (ty := .int) (t0 := 0) (N' := 30) (a0 := (30, .inl (fun _ => Int32.ofInt 0))) hx hb (hts (.arrayClass .int) (tb_1 (n := 62) rfl rfl)) rfl (fun _ h => h) hK rfl hP hD hS hA (za_int 30) (by decide) rfl (Nat.le_of_ble_eq_true rfl) (Nat.le_of_ble_eq_true rfl) (Nat.le_of_ble_eq_true rfl) dX6_init_12 (fun q12 H hP hD hS => ?_)
  have hP : va_P D am_cl ((h0, .inr (6, [.int (Int32.ofInt 0), .null, .null, .null, .null, .null, .null])) :: (X0 ++ [(q12, .inl (cT 0, 30, .inl (fun _ => Int32.ofInt 0)))])) H := hP
  have hD : va_D (fr0 h0 s.heap.size) ((h0, .inr (6, [.int (Int32.ofInt 0), .null, .null, .null, .null, .null, .null])) :: (X0 ++ [(q12, .inl (cT 0, 30, .inl (fun _ => Int32.ofInt 0)))])) := hD
  generalize eX1 : X0 ++ [(q12, .inl (cT 0, 30, .inl (fun _ => Int32.ofInt 0)))] = X1 at hP hD
  refine va_putF (D := D) (ci := 6) (v := .ref q12) (ty := .array .int) (C := RX6) (T := TX6) (N := 7) hx hb hts am_ws_6 tyX6 tyX6_ok nmX6 hown hK hP hD hS 0 rfl rfl 1 (by decide) (hts _ (tb_2 (n := 91) rfl rfl)) (fun _ h9 => h9) rfl hin rfl (tyX6_ok 1 (by decide)) rfl rfl (Nat.le_of_ble_eq_true rfl) dX6_init_14 (fun H locs hP hD hS => ?_)
  have hP : va_P D am_cl ((h0, .inr (6, [.int (Int32.ofInt 0), .ref q12, .null, .null, .null, .null, .null])) :: X1) H := hP
  have hD : va_D (fr0 h0 s.heap.size) ((h0, .inr (6, [.int (Int32.ofInt 0), .ref q12, .null, .null, .null, .null, .null])) :: X1) := hD
  refine lv_aload_n hx hb dX6_init_17 rfl (lv_at hl 0 rfl) ?_
  refine lv_bipush (v := Int32.ofInt 30) hx hb dX6_init_18 (by decide) ?_
  refine nw_arr (atype := .int) (ty := .int) (t0 := 0) (N' := 30) (a0 := (30, .inl (fun _ => Int32.ofInt 0))) hx hb (hts (.arrayClass .int) (tb_1 (n := 62) rfl rfl)) rfl (fun _ h => h) hK rfl hP hD hS hA (za_int 30) (by decide) rfl (Nat.le_of_ble_eq_true rfl) (Nat.le_of_ble_eq_true rfl) (Nat.le_of_ble_eq_true rfl) dX6_init_20 (fun q20 H hP hD hS => ?_)
  have hP : va_P D am_cl ((h0, .inr (6, [.int (Int32.ofInt 0), .ref q12, .null, .null, .null, .null, .null])) :: (X1 ++ [(q20, .inl (cT 0, 30, .inl (fun _ => Int32.ofInt 0)))])) H := hP
  have hD : va_D (fr0 h0 s.heap.size) ((h0, .inr (6, [.int (Int32.ofInt 0), .ref q12, .null, .null, .null, .null, .null])) :: (X1 ++ [(q20, .inl (cT 0, 30, .inl (fun _ => Int32.ofInt 0)))])) := hD
  generalize eX2 : X1 ++ [(q20, .inl (cT 0, 30, .inl (fun _ => Int32.ofInt 0)))] = X2 at hP hD
  refine va_putF (D := D) (ci := 6) (v := .ref q20) (ty := .array .int) (C := RX6) (T := TX6) (N := 7) hx hb hts am_ws_6 tyX6 tyX6_ok nmX6 hown hK hP hD hS 0 rfl rfl 2 (by decide) (hts _ (tb_2 (n := 92) rfl rfl)) (fun _ h9 => h9) rfl hin rfl (tyX6_ok 2 (by decide)) rfl rfl (Nat.le_of_ble_eq_true rfl) dX6_init_22 (fun H locs hP hD hS => ?_)
  have hP : va_P D am_cl ((h0, .inr (6, [.int (Int32.ofInt 0), .ref q12, .ref q20, .null, .null, .null, .null])) :: X2) H := hP
  have hD : va_D (fr0 h0 s.heap.size) ((h0, .inr (6, [.int (Int32.ofInt 0), .ref q12, .ref q20, .null, .null, .null, .null])) :: X2) := hD
  refine lv_aload_n hx hb dX6_init_25 rfl (lv_at hl 0 rfl) ?_
  refine lv_bipush (v := Int32.ofInt 30) hx hb dX6_init_26 (by decide) ?_
  refine nw_arr (atype := .int) (ty := .int) (t0 := 0) (N' := 30) (a0 := (30, .inl (fun _ => Int32.ofInt 0))) hx hb (hts (.arrayClass .int) (tb_1 (n := 62) rfl rfl)) rfl (fun _ h => h) hK rfl hP hD hS hA (za_int 30) (by decide) rfl (Nat.le_of_ble_eq_true rfl) (Nat.le_of_ble_eq_true rfl) (Nat.le_of_ble_eq_true rfl) dX6_init_28 (fun q28 H hP hD hS => ?_)
  have hP : va_P D am_cl ((h0, .inr (6, [.int (Int32.ofInt 0), .ref q12, .ref q20, .null, .null, .null, .null])) :: (X2 ++ [(q28, .inl (cT 0, 30, .inl (fun _ => Int32.ofInt 0)))])) H := hP
  have hD : va_D (fr0 h0 s.heap.size) ((h0, .inr (6, [.int (Int32.ofInt 0), .ref q12, .ref q20, .null, .null, .null, .null])) :: (X2 ++ [(q28, .inl (cT 0, 30, .inl (fun _ => Int32.ofInt 0)))])) := hD
  generalize eX3 : X2 ++ [(q28, .inl (cT 0, 30, .inl (fun _ => Int32.ofInt 0)))] = X3 at hP hD
  refine va_putF (D := D) (ci := 6) (v := .ref q28) (ty := .array .int) (C := RX6) (T := TX6) (N := 7) hx hb hts am_ws_6 tyX6 tyX6_ok nmX6 hown hK hP hD hS 0 rfl rfl 3 (by decide) (hts _ (tb_2 (n := 93) rfl rfl)) (fun _ h9 => h9) rfl hin rfl (tyX6_ok 3 (by decide)) rfl rfl (Nat.le_of_ble_eq_true rfl) dX6_init_30 (fun H locs hP hD hS => ?_)
  have hP : va_P D am_cl ((h0, .inr (6, [.int (Int32.ofInt 0), .ref q12, .ref q20, .ref q28, .null, .null, .null])) :: X3) H := hP
  have hD : va_D (fr0 h0 s.heap.size) ((h0, .inr (6, [.int (Int32.ofInt 0), .ref q12, .ref q20, .ref q28, .null, .null, .null])) :: X3) := hD
  refine lv_aload_n hx hb dX6_init_33 rfl (lv_at hl 0 rfl) ?_
  refine lv_bipush (v := Int32.ofInt 30) hx hb dX6_init_34 (by decide) ?_
  refine nw_arr (atype := .boolean) (ty := .boolean) (t0 := 2) (N' := 30) (a0 := (30, .inl (fun _ => Int32.ofInt 0))) hx hb (hts (.arrayClass .boolean) (tb_2 (n := 112) rfl rfl)) rfl (fun _ h => h) hK rfl hP hD hS hA (za_boolean 30) (by decide) rfl (Nat.le_of_ble_eq_true rfl) (Nat.le_of_ble_eq_true rfl) (Nat.le_of_ble_eq_true rfl) dX6_init_36 (fun q36 H hP hD hS => ?_)
  have hP : va_P D am_cl ((h0, .inr (6, [.int (Int32.ofInt 0), .ref q12, .ref q20, .ref q28, .null, .null, .null])) :: (X3 ++ [(q36, .inl (cT 2, 30, .inl (fun _ => Int32.ofInt 0)))])) H := hP
  have hD : va_D (fr0 h0 s.heap.size) ((h0, .inr (6, [.int (Int32.ofInt 0), .ref q12, .ref q20, .ref q28, .null, .null, .null])) :: (X3 ++ [(q36, .inl (cT 2, 30, .inl (fun _ => Int32.ofInt 0)))])) := hD
  generalize eX4 : X3 ++ [(q36, .inl (cT 2, 30, .inl (fun _ => Int32.ofInt 0)))] = X4 at hP hD
  refine va_putF (D := D) (ci := 6) (v := .ref q36) (ty := .array .boolean) (C := RX6) (T := TX6) (N := 7) hx hb hts am_ws_6 tyX6 tyX6_ok nmX6 hown hK hP hD hS 0 rfl rfl 4 (by decide) (hts _ (tb_2 (n := 94) rfl rfl)) (fun _ h9 => h9) rfl hin rfl (tyX6_ok 4 (by decide)) rfl rfl (Nat.le_of_ble_eq_true rfl) dX6_init_38 (fun H locs hP hD hS => ?_)
  have hP : va_P D am_cl ((h0, .inr (6, [.int (Int32.ofInt 0), .ref q12, .ref q20, .ref q28, .ref q36, .null, .null])) :: X4) H := hP
  have hD : va_D (fr0 h0 s.heap.size) ((h0, .inr (6, [.int (Int32.ofInt 0), .ref q12, .ref q20, .ref q28, .ref q36, .null, .null])) :: X4) := hD
  refine lv_aload_n hx hb dX6_init_41 rfl (lv_at hl 0 rfl) ?_
  refine lv_bipush (v := Int32.ofInt 30) hx hb dX6_init_42 (by decide) ?_
  refine nw_arr (atype := .int) (ty := .int) (t0 := 0) (N' := 30) (a0 := (30, .inl (fun _ => Int32.ofInt 0))) hx hb (hts (.arrayClass .int) (tb_1 (n := 62) rfl rfl)) rfl (fun _ h => h) hK rfl hP hD hS hA (za_int 30) (by decide) rfl (Nat.le_of_ble_eq_true rfl) (Nat.le_of_ble_eq_true rfl) (Nat.le_of_ble_eq_true rfl) dX6_init_44 (fun q44 H hP hD hS => ?_)
  have hP : va_P D am_cl ((h0, .inr (6, [.int (Int32.ofInt 0), .ref q12, .ref q20, .ref q28, .ref q36, .null, .null])) :: (X4 ++ [(q44, .inl (cT 0, 30, .inl (fun _ => Int32.ofInt 0)))])) H := hP
  have hD : va_D (fr0 h0 s.heap.size) ((h0, .inr (6, [.int (Int32.ofInt 0), .ref q12, .ref q20, .ref q28, .ref q36, .null, .null])) :: (X4 ++ [(q44, .inl (cT 0, 30, .inl (fun _ => Int32.ofInt 0)))])) := hD
  generalize eX5 : X4 ++ [(q44, .inl (cT 0, 30, .inl (fun _ => Int32.ofInt 0)))] = X5 at hP hD
  refine va_putF (D := D) (ci := 6) (v := .ref q44) (ty := .array .int) (C := RX6) (T := TX6) (N := 7) hx hb hts am_ws_6 tyX6 tyX6_ok nmX6 hown hK hP hD hS 0 rfl rfl 5 (by decide) (hts _ (tb_2 (n := 95) rfl rfl)) (fun _ h9 => h9) rfl hin rfl (tyX6_ok 5 (by decide)) rfl rfl (Nat.le_of_ble_eq_true rfl) dX6_init_46 (fun H locs hP hD hS => ?_)
  have hP : va_P D am_cl ((h0, .inr (6, [.int (Int32.ofInt 0), .ref q12, .ref q20, .ref q28, .ref q36, .ref q44, .null])) :: X5) H := hP
  have hD : va_D (fr0 h0 s.heap.size) ((h0, .inr (6, [.int (Int32.ofInt 0), .ref q12, .ref q20, .ref q28, .ref q36, .ref q44, .null])) :: X5) := hD
  refine lv_aload_n hx hb dX6_init_49 rfl (lv_at hl 0 rfl) ?_
  refine lv_bipush (v := Int32.ofInt 30) hx hb dX6_init_50 (by decide) ?_
  refine nw_arr (atype := .int) (ty := .int) (t0 := 0) (N' := 30) (a0 := (30, .inl (fun _ => Int32.ofInt 0))) hx hb (hts (.arrayClass .int) (tb_1 (n := 62) rfl rfl)) rfl (fun _ h => h) hK rfl hP hD hS hA (za_int 30) (by decide) rfl (Nat.le_of_ble_eq_true rfl) (Nat.le_of_ble_eq_true rfl) (Nat.le_of_ble_eq_true rfl) dX6_init_52 (fun q52 H hP hD hS => ?_)
  have hP : va_P D am_cl ((h0, .inr (6, [.int (Int32.ofInt 0), .ref q12, .ref q20, .ref q28, .ref q36, .ref q44, .null])) :: (X5 ++ [(q52, .inl (cT 0, 30, .inl (fun _ => Int32.ofInt 0)))])) H := hP
  have hD : va_D (fr0 h0 s.heap.size) ((h0, .inr (6, [.int (Int32.ofInt 0), .ref q12, .ref q20, .ref q28, .ref q36, .ref q44, .null])) :: (X5 ++ [(q52, .inl (cT 0, 30, .inl (fun _ => Int32.ofInt 0)))])) := hD
  generalize eX6 : X5 ++ [(q52, .inl (cT 0, 30, .inl (fun _ => Int32.ofInt 0)))] = X6 at hP hD
  refine va_putF (D := D) (ci := 6) (v := .ref q52) (ty := .array .int) (C := RX6) (T := TX6) (N := 7) hx hb hts am_ws_6 tyX6 tyX6_ok nmX6 hown hK hP hD hS 0 rfl rfl 6 (by decide) (hts _ (tb_2 (n := 96) rfl rfl)) (fun _ h9 => h9) rfl hin rfl (tyX6_ok 6 (by decide)) rfl rfl (Nat.le_of_ble_eq_true rfl) dX6_init_54 (fun H locs hP hD hS => ?_)
  have hP : va_P D am_cl ((h0, .inr (6, [.int (Int32.ofInt 0), .ref q12, .ref q20, .ref q28, .ref q36, .ref q44, .ref q52])) :: X6) H := hP
  have hD : va_D (fr0 h0 s.heap.size) ((h0, .inr (6, [.int (Int32.ofInt 0), .ref q12, .ref q20, .ref q28, .ref q36, .ref q44, .ref q52])) :: X6) := hD
  subst eX6 eX5 eX4 eX3 eX2 eX1 eX0
  refine W.widen (k := 6) (n := 180) (Nat.le_of_ble_eq_true rfl) (Nat.le_of_ble_eq_true rfl) ?_
  exact W.vret hx hb hr (fun t ht hW => ⟨⟨rfl, fun k => ([h0, q12, q20, q28, q36, q44, q52] : List Nat).getD k 0, rfl, by rw [ht]; exact hP, hD⟩, hS.F ht⟩) hS.2.2 dX6_init_57 hlocks
