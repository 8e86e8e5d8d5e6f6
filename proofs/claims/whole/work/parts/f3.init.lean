theorem dX7_init_0 : decode cX7_init 0 = .ok (.aload_n 0, 1) := by decide +kernel
theorem dX7_init_1 : decode cX7_init 1 = .ok (.invokespecial 3, 3) := by decide +kernel
theorem dX7_init_4 : decode cX7_init 4 = .ok (.aload_n 0, 1) := by decide +kernel
theorem dX7_init_5 : decode cX7_init 5 = .ok (.iconst 5, 1) := by decide +kernel
theorem dX7_init_6 : decode cX7_init 6 = .ok (.newarray .int, 2) := by decide +kernel
theorem dX7_init_8 : decode cX7_init 8 = .ok (.putfield 9, 3) := by decide +kernel
theorem dX7_init_11 : decode cX7_init 11 = .ok (.aload_n 0, 1) := by decide +kernel
theorem dX7_init_12 : decode cX7_init 12 = .ok (.iconst 4, 1) := by decide +kernel
theorem dX7_init_13 : decode cX7_init 13 = .ok (.bipush 8, 2) := by decide +kernel
theorem dX7_init_15 : decode cX7_init 15 = .ok (.multianewarray 15 2, 4) := by decide +kernel
theorem dX7_init_19 : decode cX7_init 19 = .ok (.putfield 17, 3) := by decide +kernel
theorem dX7_init_22 : decode cX7_init 22 = .ok (.aload_n 0, 1) := by decide +kernel
theorem dX7_init_23 : decode cX7_init 23 = .ok (.iconst 5, 1) := by decide +kernel
theorem dX7_init_24 : decode cX7_init 24 = .ok (.bipush 8, 2) := by decide +kernel
theorem dX7_init_26 : decode cX7_init 26 = .ok (.multianewarray 20 2, 4) := by decide +kernel
theorem dX7_init_30 : decode cX7_init 30 = .ok (.putfield 22, 3) := by decide +kernel
theorem dX7_init_33 : decode cX7_init 33 = .ok (.aload_n 0, 1) := by decide +kernel
theorem dX7_init_34 : decode cX7_init 34 = .ok (.bipush 8, 2) := by decide +kernel
theorem dX7_init_36 : decode cX7_init 36 = .ok (.newarray .int, 2) := by decide +kernel
theorem dX7_init_38 : decode cX7_init 38 = .ok (.putfield 25, 3) := by decide +kernel
theorem dX7_init_41 : decode cX7_init 41 = .ok (.aload_n 0, 1) := by decide +kernel
theorem dX7_init_42 : decode cX7_init 42 = .ok (.bipush 8, 2) := by decide +kernel
theorem dX7_init_44 : decode cX7_init 44 = .ok (.newarray .int, 2) := by decide +kernel
theorem dX7_init_46 : decode cX7_init 46 = .ok (.putfield 28, 3) := by decide +kernel
theorem dX7_init_49 : decode cX7_init 49 = .ok (.aload_n 0, 1) := by decide +kernel
theorem dX7_init_50 : decode cX7_init 50 = .ok (.iconst 3, 1) := by decide +kernel
theorem dX7_init_51 : decode cX7_init 51 = .ok (.bipush 8, 2) := by decide +kernel
theorem dX7_init_53 : decode cX7_init 53 = .ok (.multianewarray 20 2, 4) := by decide +kernel
theorem dX7_init_57 : decode cX7_init 57 = .ok (.putfield 31, 3) := by decide +kernel
theorem dX7_init_60 : decode cX7_init 60 = .ok (.aload_n 0, 1) := by decide +kernel
theorem dX7_init_61 : decode cX7_init 61 = .ok (.bipush 6, 2) := by decide +kernel
theorem dX7_init_63 : decode cX7_init 63 = .ok (.newarray .int, 2) := by decide +kernel
theorem dX7_init_65 : decode cX7_init 65 = .ok (.putfield 34, 3) := by decide +kernel
theorem dX7_init_68 : decode cX7_init 68 = .ok (.aload_n 0, 1) := by decide +kernel
theorem dX7_init_69 : decode cX7_init 69 = .ok (.bipush 6, 2) := by decide +kernel
theorem dX7_init_71 : decode cX7_init 71 = .ok (.newarray .int, 2) := by decide +kernel
theorem dX7_init_73 : decode cX7_init 73 = .ok (.putfield 37, 3) := by decide +kernel
theorem dX7_init_76 : decode cX7_init 76 = .ok (.aload_n 0, 1) := by decide +kernel
theorem dX7_init_77 : decode cX7_init 77 = .ok (.bipush 6, 2) := by decide +kernel
theorem dX7_init_79 : decode cX7_init 79 = .ok (.iconst 4, 1) := by decide +kernel
theorem dX7_init_80 : decode cX7_init 80 = .ok (.multianewarray 20 2, 4) := by decide +kernel
theorem dX7_init_84 : decode cX7_init 84 = .ok (.putfield 40, 3) := by decide +kernel
theorem dX7_init_87 : decode cX7_init 87 = .ok (.aload_n 0, 1) := by decide +kernel
theorem dX7_init_88 : decode cX7_init 88 = .ok (.new 43, 3) := by decide +kernel
theorem dX7_init_91 : decode cX7_init 91 = .ok (.dup, 1) := by decide +kernel
theorem dX7_init_92 : decode cX7_init 92 = .ok (.invokespecial 45, 3) := by decide +kernel
theorem dX7_init_95 : decode cX7_init 95 = .ok (.putfield 46, 3) := by decide +kernel
theorem dX7_init_98 : decode cX7_init 98 = .ok (.aload_n 0, 1) := by decide +kernel
theorem dX7_init_99 : decode cX7_init 99 = .ok (.bipush 40, 2) := by decide +kernel
theorem dX7_init_101 : decode cX7_init 101 = .ok (.putfield 50, 3) := by decide +kernel
theorem dX7_init_104 : decode cX7_init 104 = .ok (.aload_n 0, 1) := by decide +kernel
theorem dX7_init_105 : decode cX7_init 105 = .ok (.iconst 0, 1) := by decide +kernel
theorem dX7_init_106 : decode cX7_init 106 = .ok (.putfield 54, 3) := by decide +kernel
theorem dX7_init_109 : decode cX7_init 109 = .ok (.return_, 1) := by decide +kernel
def kW_7 (cT : Nat → ClassId) (ad : Nat → Nat) : va_W := [(ad 0, .inr (7, [.ref (ad 1), .ref (ad 2), .ref (ad 7), .ref (ad 13), .ref (ad 14), .ref (ad 15), .ref (ad 19), .ref (ad 20), .ref (ad 21), .ref (ad 28), .int (Int32.ofInt 40), .int (Int32.ofInt 0)])),
  (ad 1, .inl (cT 0, 5, .inl (fun _ => Int32.ofInt 0))),
  (ad 2, .inl (cT 5, 4, .inr (.inr (.inr (.inr (fun j => some (([ad 3, ad 4, ad 5, ad 6] : List Nat).getD j 0))))))),
  (ad 3, .inl (cT 3, 8, .inr (.inl (fun _ => Int64.ofInt 0)))),
  (ad 4, .inl (cT 3, 8, .inr (.inl (fun _ => Int64.ofInt 0)))),
  (ad 5, .inl (cT 3, 8, .inr (.inl (fun _ => Int64.ofInt 0)))),
  (ad 6, .inl (cT 3, 8, .inr (.inl (fun _ => Int64.ofInt 0)))),
  (ad 7, .inl (cT 4, 5, .inr (.inr (.inr (.inr (fun j => some (([ad 8, ad 9, ad 10, ad 11, ad 12] : List Nat).getD j 0))))))),
  (ad 8, .inl (cT 0, 8, .inl (fun _ => Int32.ofInt 0))),
  (ad 9, .inl (cT 0, 8, .inl (fun _ => Int32.ofInt 0))),
  (ad 10, .inl (cT 0, 8, .inl (fun _ => Int32.ofInt 0))),
  (ad 11, .inl (cT 0, 8, .inl (fun _ => Int32.ofInt 0))),
  (ad 12, .inl (cT 0, 8, .inl (fun _ => Int32.ofInt 0))),
  (ad 13, .inl (cT 0, 8, .inl (fun _ => Int32.ofInt 0))),
  (ad 14, .inl (cT 0, 8, .inl (fun _ => Int32.ofInt 0))),
  (ad 15, .inl (cT 4, 3, .inr (.inr (.inr (.inr (fun j => some (([ad 16, ad 17, ad 18] : List Nat).getD j 0))))))),
  (ad 16, .inl (cT 0, 8, .inl (fun _ => Int32.ofInt 0))),
  (ad 17, .inl (cT 0, 8, .inl (fun _ => Int32.ofInt 0))),
  (ad 18, .inl (cT 0, 8, .inl (fun _ => Int32.ofInt 0))),
  (ad 19, .inl (cT 0, 6, .inl (fun _ => Int32.ofInt 0))),
  (ad 20, .inl (cT 0, 6, .inl (fun _ => Int32.ofInt 0))),
  (ad 21, .inl (cT 4, 6, .inr (.inr (.inr (.inr (fun j => some (([ad 22, ad 23, ad 24, ad 25, ad 26, ad 27] : List Nat).getD j 0))))))),
  (ad 22, .inl (cT 0, 4, .inl (fun _ => Int32.ofInt 0))),
  (ad 23, .inl (cT 0, 4, .inl (fun _ => Int32.ofInt 0))),
  (ad 24, .inl (cT 0, 4, .inl (fun _ => Int32.ofInt 0))),
  (ad 25, .inl (cT 0, 4, .inl (fun _ => Int32.ofInt 0))),
  (ad 26, .inl (cT 0, 4, .inl (fun _ => Int32.ofInt 0))),
  (ad 27, .inl (cT 0, 4, .inl (fun _ => Int32.ofInt 0))),
  (ad 28, .inr (0, [.ref (ad 29), .ref (ad 30), .ref (ad 31), .int (Int32.ofInt 0), .int (Int32.ofInt 0)])),
  (ad 29, .inl (cT 0, 300, .inl (fun _ => Int32.ofInt 0))),
  (ad 30, .inl (cT 0, 300, .inl (fun _ => Int32.ofInt 0))),
  (ad 31, .inl (cT 0, 30, .inl (fun _ => Int32.ofInt 0)))]
set_option maxHeartbeats 8000000 in
set_option maxRecDepth 100000 in
theorem kn_7 (l : Launch) (cT : Nat → ClassId) (D : va_G) (h0 sz : Nat) : Met l yX7_init (Cond.code yX7_init cX7_init 1 none :: am_WL) (kR_ 2 31 806) (va_Pc [.ref h0] (kP_ cT D h0 sz (.inr (7, [.null, .null, .null, .null, .null, .null, .null, .null, .null, .null, .int (Int32.ofInt 0), .int (Int32.ofInt 0)])))) (kQ_ D (kW_7 cT) h0 sz) 31 806 (fr0 h0 sz) := by
  refine Met.ofW (cc := cX7_init) (maxL := 1) (ret := none) (by decide) rfl ?_
  intro p e s m args below meth c s₁ B hml hv
  obtain ⟨rfl, hsz, hP, hC⟩ := hv
  have hx := B.exec
  have hb := B.bytes
  have hr := B.returns
  have hts0 := atoms_spec (ws := Cond.code yX7_init cX7_init 1 none :: am_WL) B.pre
  have hts : ∀ w ∈ am_WL, w.before ([.ref h0].toArray) s = true := fun w hw => hts0 w (List.mem_cons_of_mem _ hw)
  have hown : s.vm.findClass RX7 = some m.cls := findClass_of_methodNamed B.named
  have hlocks := B.notSynchronized
  have hin : meth.name = "<init>" := (name_of_methodNamed B.named B.method).1
  subst hsz
  have hK := hC.1
  have hA : ∀ q : Nat, s.heap.size ≤ q → fr0 h0 s.heap.size q := fun q h => Or.inr h
  have hD : va_D (fr0 h0 s.heap.size) [(h0, .inr (7, [.null, .null, .null, .null, .null, .null, .null, .null, .null, .null, .int (Int32.ofInt 0), .int (Int32.ofInt 0)]))] := d1_
  have hS : va_S (fr0 h0 s.heap.size) s.heap s.heap [] := va_S.rf
  have hl := lv_entry ([.ref h0]) (n := 1) (Nat.le_of_ble_eq_true rfl)
  rw [lg_entry_eq]
  generalize (lg_sl ([.ref h0]) ++ List.replicate (1 - (lg_sl ([.ref h0])).length) Slot.unset).toArray = ls at hl ⊢
  have hl : lv_has ls 1 [(0, .ref h0)] := hl
  have hD : va_D (fr0 h0 s.heap.size) ((h0, .inr (7, [.null, .null, .null, .null, .null, .null, .null, .null, .null, .null, .int (Int32.ofInt 0), .int (Int32.ofInt 0)])) :: ([] : va_W)) := hD
  have hP : va_P D am_cl ((h0, .inr (7, [.null, .null, .null, .null, .null, .null, .null, .null, .null, .null, .int (Int32.ofInt 0), .int (Int32.ofInt 0)])) :: ([] : va_W)) s.heap := hP
  generalize eX0 : ([] : va_W) = X0 at hP hD
  refine lv_aload_n hx hb dX7_init_0 rfl (lv_at hl 0 rfl) ?_
  refine W.objInit hx hb hown (hts _ (tb_1 (n := 32) rfl rfl)) (hts _ (tb_1 (n := 25) rfl rfl)) (hts (.code objectInit ⟨#[0xb1]⟩ 1 none) (tb_1 (n := 26) rfl rfl)) rfl (by rw [hml]; exact hl.1) rfl dX7_init_1 (Nat.le_of_ble_eq_true rfl) (Nat.le_of_ble_eq_true rfl) ?_
  refine W.eq (g2 := F0 m 4 ls []) rfl ?_
  refine lv_aload_n hx hb dX7_init_4 rfl (lv_at hl 0 rfl) ?_
  refine lv_iconst (v := Int32.ofInt 5) hx hb dX7_init_5 rfl ?_
  refine nw_arr (atype := .int) (ty := .int) (t0 := 0) (N' := 5) (a0 := (5, .inl (fun _ => Int32.ofInt 0))) hx hb (hts (.arrayClass .int) (tb_1 (n := 62) rfl rfl)) rfl (fun _ h => h) hK rfl hP hD hS hA (za_int 5) (by decide) rfl (Nat.le_of_ble_eq_true rfl) (Nat.le_of_ble_eq_true rfl) (Nat.le_of_ble_eq_true rfl) dX7_init_6 (fun q6 H hP hD hS => ?_)
  have hP : va_P D am_cl ((h0, .inr (7, [.null, .null, .null, .null, .null, .null, .null, .null, .null, .null, .int (Int32.ofInt 0), .int (Int32.ofInt 0)])) :: (X0 ++ [(q6, .inl (cT 0, 5, .inl (fun _ => Int32.ofInt 0)))])) H := hP
  have hD : va_D (fr0 h0 s.heap.size) ((h0, .inr (7, [.null, .null, .null, .null, .null, .null, .null, .null, .null, .null, .int (Int32.ofInt 0), .int (Int32.ofInt 0)])) :: (X0 ++ [(q6, .inl (cT 0, 5, .inl (fun _ => Int32.ofInt 0)))])) := hD
  generalize eX1 : X0 ++ [(q6, .inl (cT 0, 5, .inl (fun _ => Int32.ofInt 0)))] = X1 at hP hD
  refine va_putF (D := D) (ci := 7) (v := .ref q6) (ty := .array .int) (C := RX7) (T := TX7) (N := 12) hx hb hts am_ws_7 tyX7 tyX7_ok nmX7 hown hK hP hD hS 0 rfl rfl 0 (by decide) (hts _ (tb_1 (n := 64) rfl rfl)) (fun _ h9 => h9) rfl hin rfl (tyX7_ok 0 (by decide)) rfl rfl (Nat.le_of_ble_eq_true rfl) dX7_init_8 (fun H locs hP hD hS => ?_)
  have hP : va_P D am_cl ((h0, .inr (7, [.ref q6, .null, .null, .null, .null, .null, .null, .null, .null, .null, .int (Int32.ofInt 0), .int (Int32.ofInt 0)])) :: X1) H := hP
  have hD : va_D (fr0 h0 s.heap.size) ((h0, .inr (7, [.ref q6, .null, .null, .null, .null, .null, .null, .null, .null, .null, .int (Int32.ofInt 0), .int (Int32.ofInt 0)])) :: X1) := hD
  refine lv_aload_n hx hb dX7_init_11 rfl (lv_at hl 0 rfl) ?_
  refine lv_iconst (v := Int32.ofInt 4) hx hb dX7_init_12 rfl ?_
  refine lv_bipush (v := Int32.ofInt 8) hx hb dX7_init_13 (by decide) ?_
  refine nw_mna (ty := .long) (t0 := 5) (t1 := 3) (N' := 4) (K' := 8) (z := (8, .inr (.inl (fun _ => Int64.ofInt 0)))) hx hb hown (hts _ (tb_1 (n := 33) rfl rfl)) hC.2.2.1 (hts (.arrayClass .long) (tb_1 (n := 63) rfl rfl)) (fun _ h => h) hK rfl rfl hP hD hS hA (by decide) (by decide) rfl rfl (Nat.le_of_ble_eq_true rfl) (Nat.le_of_ble_eq_true rfl) (Nat.le_of_ble_eq_true rfl) rfl rfl (Nat.le_of_ble_eq_true rfl) (Nat.le_of_ble_eq_true rfl) (fun c => (za_long 8 c).symm) dX7_init_15 (fun q15 w15 H hP hD hS => ?_)
  have hP : va_P D am_cl ((h0, .inr (7, [.ref q6, .null, .null, .null, .null, .null, .null, .null, .null, .null, .int (Int32.ofInt 0), .int (Int32.ofInt 0)])) :: (X1 ++ ((q15, .inl (cT 5, 4, .inr (.inr (.inr (.inr (fun j => some (((List.range 4).map w15).getD j 0))))))) :: (List.range 4).map (fun i => (w15 i, .inl (cT 3, 8, .inr (.inl (fun _ => Int64.ofInt 0)))))))) H := hP
  have hD : va_D (fr0 h0 s.heap.size) ((h0, .inr (7, [.ref q6, .null, .null, .null, .null, .null, .null, .null, .null, .null, .int (Int32.ofInt 0), .int (Int32.ofInt 0)])) :: (X1 ++ ((q15, .inl (cT 5, 4, .inr (.inr (.inr (.inr (fun j => some (((List.range 4).map w15).getD j 0))))))) :: (List.range 4).map (fun i => (w15 i, .inl (cT 3, 8, .inr (.inl (fun _ => Int64.ofInt 0)))))))) := hD
  generalize eX2 : X1 ++ ((q15, .inl (cT 5, 4, .inr (.inr (.inr (.inr (fun j => some (((List.range 4).map w15).getD j 0))))))) :: (List.range 4).map (fun i => (w15 i, .inl (cT 3, 8, .inr (.inl (fun _ => Int64.ofInt 0)))))) = X2 at hP hD
  refine va_putF (D := D) (ci := 7) (v := .ref q15) (ty := .array (.array .long)) (C := RX7) (T := TX7) (N := 12) hx hb hts am_ws_7 tyX7 tyX7_ok nmX7 hown hK hP hD hS 0 rfl rfl 1 (by decide) (hts _ (tb_1 (n := 70) rfl rfl)) (fun _ h9 => h9) rfl hin rfl (tyX7_ok 1 (by decide)) rfl rfl (Nat.le_of_ble_eq_true rfl) dX7_init_19 (fun H locs hP hD hS => ?_)
  have hP : va_P D am_cl ((h0, .inr (7, [.ref q6, .ref q15, .null, .null, .null, .null, .null, .null, .null, .null, .int (Int32.ofInt 0), .int (Int32.ofInt 0)])) :: X2) H := hP
  have hD : va_D (fr0 h0 s.heap.size) ((h0, .inr (7, [.ref q6, .ref q15, .null, .null, .null, .null, .null, .null, .null, .null, .int (Int32.ofInt 0), .int (Int32.ofInt 0)])) :: X2) := hD
  refine lv_aload_n hx hb dX7_init_22 rfl (lv_at hl 0 rfl) ?_
  refine lv_iconst (v := Int32.ofInt 5) hx hb dX7_init_23 rfl ?_
  refine lv_bipush (v := Int32.ofInt 8) hx hb dX7_init_24 (by decide) ?_
  refine nw_mna (ty := .int) (t0 := 4) (t1 := 0) (N' := 5) (K' := 8) (z := (8, .inl (fun _ => Int32.ofInt 0))) hx hb hown (hts _ (tb_1 (n := 35) rfl rfl)) hC.2.1 (hts (.arrayClass .int) (tb_1 (n := 62) rfl rfl)) (fun _ h => h) hK rfl rfl hP hD hS hA (by decide) (by decide) rfl rfl (Nat.le_of_ble_eq_true rfl) (Nat.le_of_ble_eq_true rfl) (Nat.le_of_ble_eq_true rfl) rfl rfl (Nat.le_of_ble_eq_true rfl) (Nat.le_of_ble_eq_true rfl) (fun c => (za_int 8 c).symm) dX7_init_26 (fun q26 w26 H hP hD hS => ?_)
  have hP : va_P D am_cl ((h0, .inr (7, [.ref q6, .ref q15, .null, .null, .null, .null, .null, .null, .null, .null, .int (Int32.ofInt 0), .int (Int32.ofInt 0)])) :: (X2 ++ ((q26, .inl (cT 4, 5, .inr (.inr (.inr (.inr (fun j => some (((List.range 5).map w26).getD j 0))))))) :: (List.range 5).map (fun i => (w26 i, .inl (cT 0, 8, .inl (fun _ => Int32.ofInt 0))))))) H := hP
  have hD : va_D (fr0 h0 s.heap.size) ((h0, .inr (7, [.ref q6, .ref q15, .null, .null, .null, .null, .null, .null, .null, .null, .int (Int32.ofInt 0), .int (Int32.ofInt 0)])) :: (X2 ++ ((q26, .inl (cT 4, 5, .inr (.inr (.inr (.inr (fun j => some (((List.range 5).map w26).getD j 0))))))) :: (List.range 5).map (fun i => (w26 i, .inl (cT 0, 8, .inl (fun _ => Int32.ofInt 0))))))) := hD
  generalize eX3 : X2 ++ ((q26, .inl (cT 4, 5, .inr (.inr (.inr (.inr (fun j => some (((List.range 5).map w26).getD j 0))))))) :: (List.range 5).map (fun i => (w26 i, .inl (cT 0, 8, .inl (fun _ => Int32.ofInt 0))))) = X3 at hP hD
  refine va_putF (D := D) (ci := 7) (v := .ref q26) (ty := .array (.array .int)) (C := RX7) (T := TX7) (N := 12) hx hb hts am_ws_7 tyX7 tyX7_ok nmX7 hown hK hP hD hS 0 rfl rfl 2 (by decide) (hts _ (tb_1 (n := 72) rfl rfl)) (fun _ h9 => h9) rfl hin rfl (tyX7_ok 2 (by decide)) rfl rfl (Nat.le_of_ble_eq_true rfl) dX7_init_30 (fun H locs hP hD hS => ?_)
  have hP : va_P D am_cl ((h0, .inr (7, [.ref q6, .ref q15, .ref q26, .null, .null, .null, .null, .null, .null, .null, .int (Int32.ofInt 0), .int (Int32.ofInt 0)])) :: X3) H := hP
  have hD : va_D (fr0 h0 s.heap.size) ((h0, .inr (7, [.ref q6, .ref q15, .ref q26, .null, .null, .null, .null, .null, .null, .null, .int (Int32.ofInt 0), .int (Int32.ofInt 0)])) :: X3) := hD
  refine lv_aload_n hx hb dX7_init_33 rfl (lv_at hl 0 rfl) ?_
  refine lv_bipush (v := Int32.ofInt 8) hx hb dX7_init_34 (by decide) ?_
  refine nw_arr (atype := .int) (ty := .int) (t0 := 0) (N' := 8) (a0 := (8, .inl (fun _ => Int32.ofInt 0))) hx hb (hts (.arrayClass .int) (tb_1 (n := 62) rfl rfl)) rfl (fun _ h => h) hK rfl hP hD hS hA (za_int 8) (by decide) rfl (Nat.le_of_ble_eq_true rfl) (Nat.le_of_ble_eq_true rfl) (Nat.le_of_ble_eq_true rfl) dX7_init_36 (fun q36 H hP hD hS => ?_)
  have hP : va_P D am_cl ((h0, .inr (7, [.ref q6, .ref q15, .ref q26, .null, .null, .null, .null, .null, .null, .null, .int (Int32.ofInt 0), .int (Int32.ofInt 0)])) :: (X3 ++ [(q36, .inl (cT 0, 8, .inl (fun _ => Int32.ofInt 0)))])) H := hP
  have hD : va_D (fr0 h0 s.heap.size) ((h0, .inr (7, [.ref q6, .ref q15, .ref q26, .null, .null, .null, .null, .null, .null, .null, .int (Int32.ofInt 0), .int (Int32.ofInt 0)])) :: (X3 ++ [(q36, .inl (cT 0, 8, .inl (fun _ => Int32.ofInt 0)))])) := hD
  generalize eX4 : X3 ++ [(q36, .inl (cT 0, 8, .inl (fun _ => Int32.ofInt 0)))] = X4 at hP hD
  refine va_putF (D := D) (ci := 7) (v := .ref q36) (ty := .array .int) (C := RX7) (T := TX7) (N := 12) hx hb hts am_ws_7 tyX7 tyX7_ok nmX7 hown hK hP hD hS 0 rfl rfl 3 (by decide) (hts _ (tb_1 (n := 78) rfl rfl)) (fun _ h9 => h9) rfl hin rfl (tyX7_ok 3 (by decide)) rfl rfl (Nat.le_of_ble_eq_true rfl) dX7_init_38 (fun H locs hP hD hS => ?_)
  have hP : va_P D am_cl ((h0, .inr (7, [.ref q6, .ref q15, .ref q26, .ref q36, .null, .null, .null, .null, .null, .null, .int (Int32.ofInt 0), .int (Int32.ofInt 0)])) :: X4) H := hP
  have hD : va_D (fr0 h0 s.heap.size) ((h0, .inr (7, [.ref q6, .ref q15, .ref q26, .ref q36, .null, .null, .null, .null, .null, .null, .int (Int32.ofInt 0), .int (Int32.ofInt 0)])) :: X4) := hD
  refine lv_aload_n hx hb dX7_init_41 rfl (lv_at hl 0 rfl) ?_
  refine lv_bipush (v := Int32.ofInt 8) hx hb dX7_init_42 (by decide) ?_
  refine nw_arr (atype := .int) (ty := .int) (t0 := 0) (N' := 8) (a0 := (8, .inl (fun _ => Int32.ofInt 0))) hx hb (hts (.arrayClass .int) (tb_1 (n := 62) rfl rfl)) rfl (fun _ h => h) hK rfl hP hD hS hA (za_int 8) (by decide) rfl (Nat.le_of_ble_eq_true rfl) (Nat.le_of_ble_eq_true rfl) (Nat.le_of_ble_eq_true rfl) dX7_init_44 (fun q44 H hP hD hS => ?_)
  have hP : va_P D am_cl ((h0, .inr (7, [.ref q6, .ref q15, .ref q26, .ref q36, .null, .null, .null, .null, .null, .null, .int (Int32.ofInt 0), .int (Int32.ofInt 0)])) :: (X4 ++ [(q44, .inl (cT 0, 8, .inl (fun _ => Int32.ofInt 0)))])) H := hP
  have hD : va_D (fr0 h0 s.heap.size) ((h0, .inr (7, [.ref q6, .ref q15, .ref q26, .ref q36, .null, .null, .null, .null, .null, .null, .int (Int32.ofInt 0), .int (Int32.ofInt 0)])) :: (X4 ++ [(q44, .inl (cT 0, 8, .inl (fun _ => Int32.ofInt 0)))])) := hD
  generalize eX5 : X4 ++ [(q44, .inl (cT 0, 8, .inl (fun _ => Int32.ofInt 0)))] = X5 at hP hD
  refine va_putF (D := D) (ci := 7) (v := .ref q44) (ty := .array .int) (C := RX7) (T := TX7) (N := 12) hx hb hts am_ws_7 tyX7 tyX7_ok nmX7 hown hK hP hD hS 0 rfl rfl 4 (by decide) (hts _ (tb_1 (n := 81) rfl rfl)) (fun _ h9 => h9) rfl hin rfl (tyX7_ok 4 (by decide)) rfl rfl (Nat.le_of_ble_eq_true rfl) dX7_init_46 (fun H locs hP hD hS => ?_)
  have hP : va_P D am_cl ((h0, .inr (7, [.ref q6, .ref q15, .ref q26, .ref q36, .ref q44, .null, .null, .null, .null, .null, .int (Int32.ofInt 0), .int (Int32.ofInt 0)])) :: X5) H := hP
  have hD : va_D (fr0 h0 s.heap.size) ((h0, .inr (7, [.ref q6, .ref q15, .ref q26, .ref q36, .ref q44, .null, .null, .null, .null, .null, .int (Int32.ofInt 0), .int (Int32.ofInt 0)])) :: X5) := hD
  refine lv_aload_n hx hb dX7_init_49 rfl (lv_at hl 0 rfl) ?_
  refine lv_iconst (v := Int32.ofInt 3) hx hb dX7_init_50 rfl ?_
  refine lv_bipush (v := Int32.ofInt 8) hx hb dX7_init_51 (by decide) ?_
  refine nw_mna (ty := .int) (t0 := 4) (t1 := 0) (N' := 3) (K' := 8) (z := (8, .inl (fun _ => Int32.ofInt 0))) hx hb hown (hts _ (tb_1 (n := 35) rfl rfl)) hC.2.1 (hts (.arrayClass .int) (tb_1 (n := 62) rfl rfl)) (fun _ h => h) hK rfl rfl hP hD hS hA (by decide) (by decide) rfl rfl (Nat.le_of_ble_eq_true rfl) (Nat.le_of_ble_eq_true rfl) (Nat.le_of_ble_eq_true rfl) rfl rfl (Nat.le_of_ble_eq_true rfl) (Nat.le_of_ble_eq_true rfl) (fun c => (za_int 8 c).symm) dX7_init_53 (fun q53 w53 H hP hD hS => ?_)
  have hP : va_P D am_cl ((h0, .inr (7, [.ref q6, .ref q15, .ref q26, .ref q36, .ref q44, .null, .null, .null, .null, .null, .int (Int32.ofInt 0), .int (Int32.ofInt 0)])) :: (X5 ++ ((q53, .inl (cT 4, 3, .inr (.inr (.inr (.inr (fun j => some (((List.range 3).map w53).getD j 0))))))) :: (List.range 3).map (fun i => (w53 i, .inl (cT 0, 8, .inl (fun _ => Int32.ofInt 0))))))) H := hP
  have hD : va_D (fr0 h0 s.heap.size) ((h0, .inr (7, [.ref q6, .ref q15, .ref q26, .ref q36, .ref q44, .null, .null, .null, .null, .null, .int (Int32.ofInt 0), .int (Int32.ofInt 0)])) :: (X5 ++ ((q53, .inl (cT 4, 3, .inr (.inr (.inr (.inr (fun j => some (((List.range 3).map w53).getD j 0))))))) :: (List.range 3).map (fun i => (w53 i, .inl (cT 0, 8, .inl (fun _ => Int32.ofInt 0))))))) := hD
  generalize eX6 : X5 ++ ((q53, .inl (cT 4, 3, .inr (.inr (.inr (.inr (fun j => some (((List.range 3).map w53).getD j 0))))))) :: (List.range 3).map (fun i => (w53 i, .inl (cT 0, 8, .inl (fun _ => Int32.ofInt 0))))) = X6 at hP hD
  refine va_putF (D := D) (ci := 7) (v := .ref q53) (ty := .array (.array .int)) (C := RX7) (T := TX7) (N := 12) hx hb hts am_ws_7 tyX7 tyX7_ok nmX7 hown hK hP hD hS 0 rfl rfl 5 (by decide) (hts _ (tb_1 (n := 84) rfl rfl)) (fun _ h9 => h9) rfl hin rfl (tyX7_ok 5 (by decide)) rfl rfl (Nat.le_of_ble_eq_true rfl) dX7_init_57 (fun H locs hP hD hS => ?_)
  have hP : va_P D am_cl ((h0, .inr (7, [.ref q6, .ref q15, .ref q26, .ref q36, .ref q44, .ref q53, .null, .null, .null, .null, .int (Int32.ofInt 0), .int (Int32.ofInt 0)])) :: X6) H := hP
  have hD : va_D (fr0 h0 s.heap.size) ((h0, .inr (7, [.ref q6, .ref q15, .ref q26, .ref q36, .ref q44, .ref q53, .null, .null, .null, .null, .int (Int32.ofInt 0), .int (Int32.ofInt 0)])) :: X6) := hD
  refine lv_aload_n hx hb dX7_init_60 rfl (lv_at hl 0 rfl) ?_
  refine lv_bipush (v := Int32.ofInt 6) hx hb dX7_init_61 (by decide) ?_
  refine nw_arr (atype := .int) (ty := .int) (t0 := 0) (N' := 6) (a0 := (6, .inl (fun _ => Int32.ofInt 0))) hx hb (hts (.arrayClass .int) (tb_1 (n := 62) rfl rfl)) rfl (fun _ h => h) hK rfl hP hD hS hA (za_int 6) (by decide) rfl (Nat.le_of_ble_eq_true rfl) (Nat.le_of_ble_eq_true rfl) (Nat.le_of_ble_eq_true rfl) dX7_init_63 (fun q63 H hP hD hS => ?_)
  have hP : va_P D am_cl ((h0, .inr (7, [.ref q6, .ref q15, .ref q26, .ref q36, .ref q44, .ref q53, .null, .null, .null, .null, .int (Int32.ofInt 0), .int (Int32.ofInt 0)])) :: (X6 ++ [(q63, .inl (cT 0, 6, .inl (fun _ => Int32.ofInt 0)))])) H := hP
  have hD : va_D (fr0 h0 s.heap.size) ((h0, .inr (7, [.ref q6, .ref q15, .ref q26, .ref q36, .ref q44, .ref q53, .null, .null, .null, .null, .int (Int32.ofInt 0), .int (Int32.ofInt 0)])) :: (X6 ++ [(q63, .inl (cT 0, 6, .inl (fun _ => Int32.ofInt 0)))])) := hD
  generalize eX7 : X6 ++ [(q63, .inl (cT 0, 6, .inl (fun _ => Int32.ofInt 0)))] = X7 at hP hD
  refine va_putF (D := D) (ci := 7) (v := .ref q63) (ty := .array .int) (C := RX7) (T := TX7) (N := 12) hx hb hts am_ws_7 tyX7 tyX7_ok nmX7 hown hK hP hD hS 0 rfl rfl 6 (by decide) (hts _ (tb_1 (n := 87) rfl rfl)) (fun _ h9 => h9) rfl hin rfl (tyX7_ok 6 (by decide)) rfl rfl (Nat.le_of_ble_eq_true rfl) dX7_init_65 (fun H locs hP hD hS => ?_)
  have hP : va_P D am_cl ((h0, .inr (7, [.ref q6, .ref q15, .ref q26, .ref q36, .ref q44, .ref q53, .ref q63, .null, .null, .null, .int (Int32.ofInt 0), .int (Int32.ofInt 0)])) :: X7) H := hP
  have hD : va_D (fr0 h0 s.heap.size) ((h0, .inr (7, [.ref q6, .ref q15, .ref q26, .ref q36, .ref q44, .ref q53, .ref q63, .null, .null, .null, .int (Int32.ofInt 0), .int (Int32.ofInt 0)])) :: X7) := hD
  refine lv_aload_n hx hb dX7_init_68 rfl (lv_at hl 0 rfl) ?_
  refine lv_bipush (v := Int32.ofInt 6) hx hb dX7_init_69 (by decide) ?_
  refine nw_arr (atype := .int) (ty := .int) (t0 := 0) (N' := 6) (a0 := (6, .inl (fun _ => Int32.ofInt 0))) hx hb (hts (.arrayClass .int) (tb_1 (n := 62) rfl rfl)) rfl (fun _ h => h) hK rfl hP hD hS hA (za_int 6) (by decide) rfl (Nat.le_of_ble_eq_true rfl) (Nat.le_of_ble_eq_true rfl) (Nat.le_of_ble_eq_true rfl) dX7_init_71 (fun q71 H hP hD hS => ?_)
  have hP : va_P D am_cl ((h0, .inr (7, [.ref q6, .ref q15, .ref q26, .ref q36, .ref q44, .ref q53, .ref q63, .null, .null, .null, .int (Int32.ofInt 0), .int (Int32.ofInt 0)])) :: (X7 ++ [(q71, .inl (cT 0, 6, .inl (fun _ => Int32.ofInt 0)))])) H := hP
  have hD : va_D (fr0 h0 s.heap.size) ((h0, .inr (7, [.ref q6, .ref q15, .ref q26, .ref q36, .ref q44, .ref q53, .ref q63, .null, .null, .null, .int (Int32.ofInt 0), .int (Int32.ofInt 0)])) :: (X7 ++ [(q71, .inl (cT 0, 6, .inl (fun _ => Int32.ofInt 0)))])) := hD
  generalize eX8 : X7 ++ [(q71, .inl (cT 0, 6, .inl (fun _ => Int32.ofInt 0)))] = X8 at hP hD
  refine va_putF (D := D) (ci := 7) (v := .ref q71) (ty := .array .int) (C := RX7) (T := TX7) (N := 12) hx hb hts am_ws_7 tyX7 tyX7_ok nmX7 hown hK hP hD hS 0 rfl rfl 7 (by decide) (hts _ (tb_1 (n := 90) rfl rfl)) (fun _ h9 => h9) rfl hin rfl (tyX7_ok 7 (by decide)) rfl rfl (Nat.le_of_ble_eq_true rfl) dX7_init_73 (fun H locs hP hD hS => ?_)
  have hP : va_P D am_cl ((h0, .inr (7, [.ref q6, .ref q15, .ref q26, .ref q36, .ref q44, .ref q53, .ref q63, .ref q71, .null, .null, .int (Int32.ofInt 0), .int (Int32.ofInt 0)])) :: X8) H := hP
  have hD : va_D (fr0 h0 s.heap.size) ((h0, .inr (7, [.ref q6, .ref q15, .ref q26, .ref q36, .ref q44, .ref q53, .ref q63, .ref q71, .null, .null, .int (Int32.ofInt 0), .int (Int32.ofInt 0)])) :: X8) := hD
  refine lv_aload_n hx hb dX7_init_76 rfl (lv_at hl 0 rfl) ?_
  refine lv_bipush (v := Int32.ofInt 6) hx hb dX7_init_77 (by decide) ?_
  refine lv_iconst (v := Int32.ofInt 4) hx hb dX7_init_79 rfl ?_
  refine nw_mna (ty := .int) (t0 := 4) (t1 := 0) (N' := 6) (K' := 4) (z := (4, .inl (fun _ => Int32.ofInt 0))) hx hb hown (hts _ (tb_1 (n := 35) rfl rfl)) hC.2.1 (hts (.arrayClass .int) (tb_1 (n := 62) rfl rfl)) (fun _ h => h) hK rfl rfl hP hD hS hA (by decide) (by decide) rfl rfl (Nat.le_of_ble_eq_true rfl) (Nat.le_of_ble_eq_true rfl) (Nat.le_of_ble_eq_true rfl) rfl rfl (Nat.le_of_ble_eq_true rfl) (Nat.le_of_ble_eq_true rfl) (fun c => (za_int 4 c).symm) dX7_init_80 (fun q80 w80 H hP hD hS => ?_)
  have hP : va_P D am_cl ((h0, .inr (7, [.ref q6, .ref q15, .ref q26, .ref q36, .ref q44, .ref q53, .ref q63, .ref q71, .null, .null, .int (Int32.ofInt 0), .int (Int32.ofInt 0)])) :: (X8 ++ ((q80, .inl (cT 4, 6, .inr (.inr (.inr (.inr (fun j => some (((List.range 6).map w80).getD j 0))))))) :: (List.range 6).map (fun i => (w80 i, .inl (cT 0, 4, .inl (fun _ => Int32.ofInt 0))))))) H := hP
  have hD : va_D (fr0 h0 s.heap.size) ((h0, .inr (7, [.ref q6, .ref q15, .ref q26, .ref q36, .ref q44, .ref q53, .ref q63, .ref q71, .null, .null, .int (Int32.ofInt 0), .int (Int32.ofInt 0)])) :: (X8 ++ ((q80, .inl (cT 4, 6, .inr (.inr (.inr (.inr (fun j => some (((List.range 6).map w80).getD j 0))))))) :: (List.range 6).map (fun i => (w80 i, .inl (cT 0, 4, .inl (fun _ => Int32.ofInt 0))))))) := hD
  generalize eX9 : X8 ++ ((q80, .inl (cT 4, 6, .inr (.inr (.inr (.inr (fun j => some (((List.range 6).map w80).getD j 0))))))) :: (List.range 6).map (fun i => (w80 i, .inl (cT 0, 4, .inl (fun _ => Int32.ofInt 0))))) = X9 at hP hD
  refine va_putF (D := D) (ci := 7) (v := .ref q80) (ty := .array (.array .int)) (C := RX7) (T := TX7) (N := 12) hx hb hts am_ws_7 tyX7 tyX7_ok nmX7 hown hK hP hD hS 0 rfl rfl 8 (by decide) (hts _ (tb_1 (n := 93) rfl rfl)) (fun _ h9 => h9) rfl hin rfl (tyX7_ok 8 (by decide)) rfl rfl (Nat.le_of_ble_eq_true rfl) dX7_init_84 (fun H locs hP hD hS => ?_)
  have hP : va_P D am_cl ((h0, .inr (7, [.ref q6, .ref q15, .ref q26, .ref q36, .ref q44, .ref q53, .ref q63, .ref q71, .ref q80, .null, .int (Int32.ofInt 0), .int (Int32.ofInt 0)])) :: X9) H := hP
  have hD : va_D (fr0 h0 s.heap.size) ((h0, .inr (7, [.ref q6, .ref q15, .ref q26, .ref q36, .ref q44, .ref q53, .ref q63, .ref q71, .ref q80, .null, .int (Int32.ofInt 0), .int (Int32.ofInt 0)])) :: X9) := hD
  refine lv_aload_n hx hb dX7_init_87 rfl (lv_at hl 0 rfl) ?_
  refine va_new (ci := 0) (fs := [.null, .null, .null, .int (Int32.ofInt 0), .int (Int32.ofInt 0)]) (C := RX0) (T := TX0) (N := 5) hx hb hts am_ws_0 tyX0 tyX0_ok hown (hts _ (tb_1 (n := 37) rfl rfl)) (hts _ (tb_1 (n := 38) rfl rfl)) (hts _ (tb_1 (n := 3) rfl rfl)) hK hP hD hS hA rfl (fun j hj => by rcases (show j = 0 ∨ j = 1 ∨ j = 2 ∨ j = 3 ∨ j = 4 by omega) with rfl | rfl | rfl | rfl | rfl <;> rfl) (Nat.le_of_ble_eq_true rfl) (Nat.le_of_ble_eq_true rfl) dX7_init_88 (fun q88 H hP hD hS => ?_)
  refine lv_dup hx hb dX7_init_91 rfl ?_
  have hP : va_P D am_cl (((h0, .inr (7, [.ref q6, .ref q15, .ref q26, .ref q36, .ref q44, .ref q53, .ref q63, .ref q71, .ref q80, .null, .int (Int32.ofInt 0), .int (Int32.ofInt 0)])) :: X9) ++ [(q88, .inr (0, [.null, .null, .null, .int (Int32.ofInt 0), .int (Int32.ofInt 0)]))]) H := hP
  have hD : va_D (fr0 h0 s.heap.size) (((h0, .inr (7, [.ref q6, .ref q15, .ref q26, .ref q36, .ref q44, .ref q53, .ref q63, .ref q71, .ref q80, .null, .int (Int32.ofInt 0), .int (Int32.ofInt 0)])) :: X9) ++ [(q88, .inr (0, [.null, .null, .null, .int (Int32.ofInt 0), .int (Int32.ofInt 0)]))]) := hD
  refine nw_call (Wf := kW_0 cT) (va_runIN (As := []) (rest := [.ref q88, .ref h0]) ⟨hx, hb, hml, hown, hts⟩ (kn_0 l cT D q88 H.size) ⟨va_cnB 0 hts (js_goodIn (tb_1 (n := 41) rfl rfl)) rfl rfl rfl hC.2.2.2.2.1 (hts _ (tb_1 (n := 3) rfl rfl)) ⟨by decide +kernel, by decide +kernel, by decide +kernel⟩ ⟨(Nat.le_of_ble_eq_true rfl), (Nat.le_of_ble_eq_true rfl)⟩, rfl, hts _ (tb_1 (n := 40) rfl rfl)⟩ ⟨kP_blind _, fun U hU hW => ⟨rfl, by rw [hU], by rw [hU]; exact pl_last hP, hC.go hW⟩⟩ rfl rfl hl.1 rfl (lv_room (Nat.le_of_ble_eq_true rfl)) dX7_init_92 ⟨(Nat.le_of_ble_eq_true rfl), (Nat.le_of_ble_eq_true rfl)⟩) hP hD hS hA (fun a92 H locs e92 hP1 hD1 hS => ?_)
  clear hP hD
  subst e92
  have hP := hP1
  have hD := hD1
  have hP : va_P D am_cl ((h0, .inr (7, [.ref q6, .ref q15, .ref q26, .ref q36, .ref q44, .ref q53, .ref q63, .ref q71, .ref q80, .null, .int (Int32.ofInt 0), .int (Int32.ofInt 0)])) :: (X9 ++ kW_0 cT a92)) H := hP
  have hD : va_D (fr0 h0 s.heap.size) ((h0, .inr (7, [.ref q6, .ref q15, .ref q26, .ref q36, .ref q44, .ref q53, .ref q63, .ref q71, .ref q80, .null, .int (Int32.ofInt 0), .int (Int32.ofInt 0)])) :: (X9 ++ kW_0 cT a92)) := hD
  generalize eX10 : X9 ++ kW_0 cT a92 = X10 at hP hD
  refine va_putF (D := D) (ci := 7) (v := .ref (a92 0)) (ty := .object "FortyLetters$Formula") (C := RX7) (T := TX7) (N := 12) hx hb hts am_ws_7 tyX7 tyX7_ok nmX7 hown hK hP hD hS 0 rfl rfl 9 (by decide) (hts _ (tb_1 (n := 96) rfl rfl)) (fun _ h9 => h9) rfl hin rfl (tyX7_ok 9 (by decide)) rfl rfl (Nat.le_of_ble_eq_true rfl) dX7_init_95 (fun H locs hP hD hS => ?_)
  have hP : va_P D am_cl ((h0, .inr (7, [.ref q6, .ref q15, .ref q26, .ref q36, .ref q44, .ref q53, .ref q63, .ref q71, .ref q80, .ref (a92 0), .int (Int32.ofInt 0), .int (Int32.ofInt 0)])) :: X10) H := hP
  have hD : va_D (fr0 h0 s.heap.size) ((h0, .inr (7, [.ref q6, .ref q15, .ref q26, .ref q36, .ref q44, .ref q53, .ref q63, .ref q71, .ref q80, .ref (a92 0), .int (Int32.ofInt 0), .int (Int32.ofInt 0)])) :: X10) := hD
  refine lv_aload_n hx hb dX7_init_98 rfl (lv_at hl 0 rfl) ?_
  refine lv_bipush (v := Int32.ofInt 40) hx hb dX7_init_99 (by decide) ?_
  refine va_put (D := D) (ci := 7) (v := .int (Int32.ofInt 40)) (ty := .int) (C := RX7) (T := TX7) (N := 12) hx hb hts am_ws_7 tyX7 tyX7_ok nmX7 hown hK hP hD hS 0 rfl rfl 10 (by decide) (hts _ (tb_1 (n := 100) rfl rfl)) (fun _ h9 => h9) rfl (tyX7_ok 10 (by decide)) rfl rfl (Nat.le_of_ble_eq_true rfl) dX7_init_101 (fun H locs hP hD hS => ?_)
  have hP : va_P D am_cl ((h0, .inr (7, [.ref q6, .ref q15, .ref q26, .ref q36, .ref q44, .ref q53, .ref q63, .ref q71, .ref q80, .ref (a92 0), .int (Int32.ofInt 40), .int (Int32.ofInt 0)])) :: X10) H := hP
  have hD : va_D (fr0 h0 s.heap.size) ((h0, .inr (7, [.ref q6, .ref q15, .ref q26, .ref q36, .ref q44, .ref q53, .ref q63, .ref q71, .ref q80, .ref (a92 0), .int (Int32.ofInt 40), .int (Int32.ofInt 0)])) :: X10) := hD
  refine lv_aload_n hx hb dX7_init_104 rfl (lv_at hl 0 rfl) ?_
  refine lv_iconst (v := Int32.ofInt 0) hx hb dX7_init_105 rfl ?_
  refine va_put (D := D) (ci := 7) (v := .int (Int32.ofInt 0)) (ty := .int) (C := RX7) (T := TX7) (N := 12) hx hb hts am_ws_7 tyX7 tyX7_ok nmX7 hown hK hP hD hS 0 rfl rfl 11 (by decide) (hts _ (tb_1 (n := 104) rfl rfl)) (fun _ h9 => h9) rfl (tyX7_ok 11 (by decide)) rfl rfl (Nat.le_of_ble_eq_true rfl) dX7_init_106 (fun H locs hP hD hS => ?_)
  have hP : va_P D am_cl ((h0, .inr (7, [.ref q6, .ref q15, .ref q26, .ref q36, .ref q44, .ref q53, .ref q63, .ref q71, .ref q80, .ref (a92 0), .int (Int32.ofInt 40), .int (Int32.ofInt 0)])) :: X10) H := hP
  have hD : va_D (fr0 h0 s.heap.size) ((h0, .inr (7, [.ref q6, .ref q15, .ref q26, .ref q36, .ref q44, .ref q53, .ref q63, .ref q71, .ref q80, .ref (a92 0), .int (Int32.ofInt 40), .int (Int32.ofInt 0)])) :: X10) := hD
  subst eX10 eX9 eX8 eX7 eX6 eX5 eX4 eX3 eX2 eX1 eX0
  refine W.widen (k := 31) (n := 806) (Nat.le_of_ble_eq_true rfl) (Nat.le_of_ble_eq_true rfl) ?_
  exact W.vret hx hb hr (fun t ht hW => ⟨⟨rfl, fun k => ([h0, q6, q15, w15 0, w15 1, w15 2, w15 3, q26, w26 0, w26 1, w26 2, w26 3, w26 4, q36, q44, q53, w53 0, w53 1, w53 2, q63, q71, q80, w80 0, w80 1, w80 2, w80 3, w80 4, w80 5, a92 0, a92 1, a92 2, a92 3] : List Nat).getD k 0, rfl, by rw [ht]; exact hP, hD⟩, hS.F ht⟩) hS.2.2 dX7_init_109 hlocks
