theorem dX1_init_0 : decode cX1_init 0 = .ok (.aload_n 0, 1) := by decide +kernel
theorem dX1_init_1 : decode cX1_init 1 = .ok (.invokespecial 3, 3) := by decide +kernel
theorem dX1_init_4 : decode cX1_init 4 = .ok (.aload_n 0, 1) := by decide +kernel
theorem dX1_init_5 : decode cX1_init 5 = .ok (.iconst 0, 1) := by decide +kernel
theorem dX1_init_6 : decode cX1_init 6 = .ok (.putfield 9, 3) := by decide +kernel
theorem dX1_init_9 : decode cX1_init 9 = .ok (.aload_n 0, 1) := by decide +kernel
theorem dX1_init_10 : decode cX1_init 10 = .ok (.iconst 0, 1) := by decide +kernel
theorem dX1_init_11 : decode cX1_init 11 = .ok (.putfield 15, 3) := by decide +kernel
theorem dX1_init_14 : decode cX1_init 14 = .ok (.aload_n 0, 1) := by decide +kernel
theorem dX1_init_15 : decode cX1_init 15 = .ok (.bipush 41, 2) := by decide +kernel
theorem dX1_init_17 : decode cX1_init 17 = .ok (.bipush 49, 2) := by decide +kernel
theorem dX1_init_19 : decode cX1_init 19 = .ok (.multianewarray 18 2, 4) := by decide +kernel
theorem dX1_init_23 : decode cX1_init 23 = .ok (.putfield 20, 3) := by decide +kernel
theorem dX1_init_26 : decode cX1_init 26 = .ok (.aload_n 0, 1) := by decide +kernel
theorem dX1_init_27 : decode cX1_init 27 = .ok (.iconst 0, 1) := by decide +kernel
theorem dX1_init_28 : decode cX1_init 28 = .ok (.putfield 23, 3) := by decide +kernel
theorem dX1_init_31 : decode cX1_init 31 = .ok (.return_, 1) := by decide +kernel
def kW_1 (cT : Nat → ClassId) (ad : Nat → Nat) : va_W := [(ad 0, .inr (1, [.int (Int32.ofInt 0), .int (Int32.ofInt 0), .ref (ad 1), .int (Int32.ofInt 0)])),
  (ad 1, .inl (cT 4, 41, .inr (.inr (.inr (.inr (fun j => some (([ad 2, ad 3, ad 4, ad 5, ad 6, ad 7, ad 8, ad 9, ad 10, ad 11, ad 12, ad 13, ad 14, ad 15, ad 16, ad 17, ad 18, ad 19, ad 20, ad 21, ad 22, ad 23, ad 24, ad 25, ad 26, ad 27, ad 28, ad 29, ad 30, ad 31, ad 32, ad 33, ad 34, ad 35, ad 36, ad 37, ad 38, ad 39, ad 40, ad 41, ad 42] : List Nat).getD j 0))))))),
  (ad 2, .inl (cT 0, 49, .inl (fun _ => Int32.ofInt 0))),
  (ad 3, .inl (cT 0, 49, .inl (fun _ => Int32.ofInt 0))),
  (ad 4, .inl (cT 0, 49, .inl (fun _ => Int32.ofInt 0))),
  (ad 5, .inl (cT 0, 49, .inl (fun _ => Int32.ofInt 0))),
  (ad 6, .inl (cT 0, 49, .inl (fun _ => Int32.ofInt 0))),
  (ad 7, .inl (cT 0, 49, .inl (fun _ => Int32.ofInt 0))),
  (ad 8, .inl (cT 0, 49, .inl (fun _ => Int32.ofInt 0))),
  (ad 9, .inl (cT 0, 49, .inl (fun _ => Int32.ofInt 0))),
  (ad 10, .inl (cT 0, 49, .inl (fun _ => Int32.ofInt 0))),
  (ad 11, .inl (cT 0, 49, .inl (fun _ => Int32.ofInt 0))),
  (ad 12, .inl (cT 0, 49, .inl (fun _ => Int32.ofInt 0))),
  (ad 13, .inl (cT 0, 49, .inl (fun _ => Int32.ofInt 0))),
  (ad 14, .inl (cT 0, 49, .inl (fun _ => Int32.ofInt 0))),
  (ad 15, .inl (cT 0, 49, .inl (fun _ => Int32.ofInt 0))),
  (ad 16, .inl (cT 0, 49, .inl (fun _ => Int32.ofInt 0))),
  (ad 17, .inl (cT 0, 49, .inl (fun _ => Int32.ofInt 0))),
  (ad 18, .inl (cT 0, 49, .inl (fun _ => Int32.ofInt 0))),
  (ad 19, .inl (cT 0, 49, .inl (fun _ => Int32.ofInt 0))),
  (ad 20, .inl (cT 0, 49, .inl (fun _ => Int32.ofInt 0))),
  (ad 21, .inl (cT 0, 49, .inl (fun _ => Int32.ofInt 0))),
  (ad 22, .inl (cT 0, 49, .inl (fun _ => Int32.ofInt 0))),
  (ad 23, .inl (cT 0, 49, .inl (fun _ => Int32.ofInt 0))),
  (ad 24, .inl (cT 0, 49, .inl (fun _ => Int32.ofInt 0))),
  (ad 25, .inl (cT 0, 49, .inl (fun _ => Int32.ofInt 0))),
  (ad 26, .inl (cT 0, 49, .inl (fun _ => Int32.ofInt 0))),
  (ad 27, .inl (cT 0, 49, .inl (fun _ => Int32.ofInt 0))),
  (ad 28, .inl (cT 0, 49, .inl (fun _ => Int32.ofInt 0))),
  (ad 29, .inl (cT 0, 49, .inl (fun _ => Int32.ofInt 0))),
  (ad 30, .inl (cT 0, 49, .inl (fun _ => Int32.ofInt 0))),
  (ad 31, .inl (cT 0, 49, .inl (fun _ => Int32.ofInt 0))),
  (ad 32, .inl (cT 0, 49, .inl (fun _ => Int32.ofInt 0))),
  (ad 33, .inl (cT 0, 49, .inl (fun _ => Int32.ofInt 0))),
  (ad 34, .inl (cT 0, 49, .inl (fun _ => Int32.ofInt 0))),
  (ad 35, .inl (cT 0, 49, .inl (fun _ => Int32.ofInt 0))),
  (ad 36, .inl (cT 0, 49, .inl (fun _ => Int32.ofInt 0))),
  (ad 37, .inl (cT 0, 49, .inl (fun _ => Int32.ofInt 0))),
  (ad 38, .inl (cT 0, 49, .inl (fun _ => Int32.ofInt 0))),
  (ad 39, .inl (cT 0, 49, .inl (fun _ => Int32.ofInt 0))),
  (ad 40, .inl (cT 0, 49, .inl (fun _ => Int32.ofInt 0))),
  (ad 41, .inl (cT 0, 49, .inl (fun _ => Int32.ofInt 0))),
  (ad 42, .inl (cT 0, 49, .inl (fun _ => Int32.ofInt 0)))]
set_option maxHeartbeats 8000000 in
set_option maxRecDepth 100000 in
theorem kn_1 (l : Launch) (cT : Nat → ClassId) (D : va_G) (h0 sz : Nat) : Met l yX1_init (Cond.code yX1_init cX1_init 1 none :: am_WL) (kR_ 1 42 2050) (va_Pc [.ref h0] (kP_ cT D h0 sz (.inr (1, [.int (Int32.ofInt 0), .int (Int32.ofInt 0), .null, .int (Int32.ofInt 0)])))) (kQ_ D (kW_1 cT) h0 sz) 42 2050 (fr0 h0 sz) := by
  refine Met.ofW (cc := cX1_init) (maxL := 1) (ret := none) (by decide) rfl ?_
  intro p e s m args below meth c s₁ B hml hv
  obtain ⟨rfl, hsz, hP, hC⟩ := hv
  have hx := B.exec
  have hb := B.bytes
  have hr := B.returns
  have hts0 := atoms_spec (ws := Cond.code yX1_init cX1_init 1 none :: am_WL) B.pre
  have hts : ∀ w ∈ am_WL, w.before ([.ref h0].toArray) s = true := fun w hw => hts0 w (List.mem_cons_of_mem _ hw)
  have hown : s.vm.findClass RX1 = some m.cls := findClass_of_methodNamed B.named
  have hlocks := B.notSynchronized
  have hin : meth.name = "<init>" := (name_of_methodNamed B.named B.method).1
  subst hsz
  have hK := hC.1
  have hA : ∀ q : Nat, s.heap.size ≤ q → fr0 h0 s.heap.size q := fun q h => Or.inr h
  have hD : va_D (fr0 h0 s.heap.size) [(h0, .inr (1, [.int (Int32.ofInt 0), .int (Int32.ofInt 0), .null, .int (Int32.ofInt 0)]))] := d1_
  have hS : va_S (fr0 h0 s.heap.size) s.heap s.heap [] := va_S.rf
  have hl := lv_entry ([.ref h0]) (n := 1) (Nat.le_of_ble_eq_true rfl)
  rw [lg_entry_eq]
  generalize (lg_sl ([.ref h0]) ++ List.replicate (1 - (lg_sl ([.ref h0])).length) Slot.unset).toArray = ls at hl ⊢
  have hl : lv_has ls 1 [(0, .ref h0)] := hl
  have hD : va_D (fr0 h0 s.heap.size) ((h0, .inr (1, [.int (Int32.ofInt 0), .int (Int32.ofInt 0), .null, .int (Int32.ofInt 0)])) :: ([] : va_W)) := hD
  have hP : va_P D am_cl ((h0, .inr (1, [.int (Int32.ofInt 0), .int (Int32.ofInt 0), .null, .int (Int32.ofInt 0)])) :: ([] : va_W)) s.heap := hP
  generalize eX0 : ([] : va_W) = X0 at hP hD
  refine lv_aload_n hx hb dX1_init_0 rfl (lv_at hl 0 rfl) ?_
  refine W.objInit hx hb hown (hts _ (tb_2 (n := 16) rfl rfl)) (hts _ (tb_1 (n := 25) rfl rfl)) (hts (.code objectInit ⟨#[0xb1]⟩ 1 none) (tb_1 (n := 26) rfl rfl)) rfl (by rw [hml]; exact hl.1) rfl dX1_init_1 (Nat.le_of_ble_eq_true rfl) (Nat.le_of_ble_eq_true rfl) ?_
  refine W.eq (g2 := F0 m 4 ls []) rfl ?_
  refine lv_aload_n hx hb dX1_init_4 rfl (lv_at hl 0 rfl) ?_
  refine lv_iconst (v := Int32.ofInt 0) hx hb dX1_init_5 rfl ?_
  refine va_put (D := D) (ci := 1) (v := .int (Int32.ofInt 0)) (ty := .int) (C := RX1) (T := TX1) (N := 4) hx hb hts am_ws_1 tyX1 tyX1_ok nmX1 hown hK hP hD hS 0 rfl rfl 0 (by decide) (hts _ (tb_2 (n := 18) rfl rfl)) (fun _ h9 => h9) rfl (tyX1_ok 0 (by decide)) rfl rfl (Nat.le_of_ble_eq_true rfl) dX1_init_6 (fun H locs hP hD hS => ?_)
  have hP : va_P D am_cl ((h0, .inr (1, [.int (Int32.ofInt 0), .int (Int32.ofInt 0), .null, .int (Int32.ofInt 0)])) :: X0) H := hP
  have hD : va_D (fr0 h0 s.heap.size) ((h0, .inr (1, [.int (Int32.ofInt 0), .int (Int32.ofInt 0), .null, .int (Int32.ofInt 0)])) :: X0) := hD
  refine lv_aload_n hx hb dX1_init_9 rfl (lv_at hl 0 rfl) ?_
  refine lv_iconst (v := Int32.ofInt 0) hx hb dX1_init_10 rfl ?_
  refine va_put (D := D) (ci := 1) (v := .int (Int32.ofInt 0)) (ty := .int) (C := RX1) (T := TX1) (N := 4) hx hb hts am_ws_1 tyX1 tyX1_ok nmX1 hown hK hP hD hS 0 rfl rfl 1 (by decide) (hts _ (tb_2 (n := 20) rfl rfl)) (fun _ h9 => h9) rfl (tyX1_ok 1 (by decide)) rfl rfl (Nat.le_of_ble_eq_true rfl) dX1_init_11 (fun H locs hP hD hS => ?_)
  have hP : va_P D am_cl ((h0, .inr (1, [.int (Int32.ofInt 0), .int (Int32.ofInt 0), .null, .int (Int32.ofInt 0)])) :: X0) H := hP
  have hD : va_D (fr0 h0 s.heap.size) ((h0, .inr (1, [.int (Int32.ofInt 0), .int (Int32.ofInt 0), .null, .int (Int32.ofInt 0)])) :: X0) := hD
  refine lv_aload_n hx hb dX1_init_14 rfl (lv_at hl 0 rfl) ?_
  refine lv_bipush (v := Int32.ofInt 41) hx hb dX1_init_15 (by decide) ?_
  refine lv_bipush (v := Int32.ofInt 49) hx hb dX1_init_17 (by decide) ?_
  refine nw_mna (ty := .int) (t0 := 4) (t1 := 0) (N' := 41) (K' := 49) (z := (49, .inl (fun _ => Int32.ofInt 0))) hx hb hown (hts _ (tb_2 (n := 17) rfl rfl)) hC.2.1 (hts (.arrayClass .int) (tb_1 (n := 62) rfl rfl)) (fun _ h => h) hK rfl rfl hP hD hS hA (by decide) (by decide) rfl rfl (Nat.le_of_ble_eq_true rfl) (Nat.le_of_ble_eq_true rfl) (Nat.le_of_ble_eq_true rfl) rfl rfl (Nat.le_of_ble_eq_true rfl) (Nat.le_of_ble_eq_true rfl) (fun c => (za_int 49 c).symm) dX1_init_19 (fun q19 w19 H hP hD hS => ?_)
  have hP : va_P D am_cl ((h0, .inr (1, [.int (Int32.ofInt 0), .int (Int32.ofInt 0), .null, .int (Int32.ofInt 0)])) :: (X0 ++ ((q19, .inl (cT 4, 41, .inr (.inr (.inr (.inr (fun j => some (((List.range 41).map w19).getD j 0))))))) :: (List.range 41).map (fun i => (w19 i, .inl (cT 0, 49, .inl (fun _ => Int32.ofInt 0))))))) H := hP
  have hD : va_D (fr0 h0 s.heap.size) ((h0, .inr (1, [.int (Int32.ofInt 0), .int (Int32.ofInt 0), .null, .int (Int32.ofInt 0)])) :: (X0 ++ ((q19, .inl (cT 4, 41, .inr (.inr (.inr (.inr (fun j => some (((List.range 41).map w19).getD j 0))))))) :: (List.range 41).map (fun i => (w19 i, .inl (cT 0, 49, .inl (fun _ => Int32.ofInt 0))))))) := hD
  generalize eX1 : X0 ++ ((q19, .inl (cT 4, 41, .inr (.inr (.inr (.inr (fun j => some (((List.range 41).map w19).getD j 0))))))) :: (List.range 41).map (fun i => (w19 i, .inl (cT 0, 49, .inl (fun _ => Int32.ofInt 0))))) = X1 at hP hD
  refine va_putF (D := D) (ci := 1) (v := .ref q19) (ty := .array (.array .int)) (C := RX1) (T := TX1) (N := 4) hx hb hts am_ws_1 tyX1 tyX1_ok nmX1 hown hK hP hD hS 0 rfl rfl 2 (by decide) (hts _ (tb_2 (n := 22) rfl rfl)) (fun _ h9 => h9) rfl hin rfl (tyX1_ok 2 (by decide)) rfl rfl (Nat.le_of_ble_eq_true rfl) dX1_init_23 (fun H locs hP hD hS => ?_)
  have hP : va_P D am_cl ((h0, .inr (1, [.int (Int32.ofInt 0), .int (Int32.ofInt 0), .ref q19, .int (Int32.ofInt 0)])) :: X1) H := hP
  have hD : va_D (fr0 h0 s.heap.size) ((h0, .inr (1, [.int (Int32.ofInt 0), .int (Int32.ofInt 0), .ref q19, .int (Int32.ofInt 0)])) :: X1) := hD
  refine lv_aload_n hx hb dX1_init_26 rfl (lv_at hl 0 rfl) ?_
  refine lv_iconst (v := Int32.ofInt 0) hx hb dX1_init_27 rfl ?_
  refine va_put (D := D) (ci := 1) (v := .int (Int32.ofInt 0)) (ty := .int) (C := RX1) (T := TX1) (N := 4) hx hb hts am_ws_1 tyX1 tyX1_ok nmX1 hown hK hP hD hS 0 rfl rfl 3 (by decide) (hts _ (tb_2 (n := 23) rfl rfl)) (fun _ h9 => h9) rfl (tyX1_ok 3 (by decide)) rfl rfl (Nat.le_of_ble_eq_true rfl) dX1_init_28 (fun H locs hP hD hS => ?_)
  have hP : va_P D am_cl ((h0, .inr (1, [.int (Int32.ofInt 0), .int (Int32.ofInt 0), .ref q19, .int (Int32.ofInt 0)])) :: X1) H := hP
  have hD : va_D (fr0 h0 s.heap.size) ((h0, .inr (1, [.int (Int32.ofInt 0), .int (Int32.ofInt 0), .ref q19, .int (Int32.ofInt 0)])) :: X1) := hD
  subst eX1 eX0
  refine W.widen (k := 42) (n := 2050) (Nat.le_of_ble_eq_true rfl) (Nat.le_of_ble_eq_true rfl) ?_
  exact W.vret hx hb hr (fun t ht hW => ⟨⟨rfl, fun k => ([h0, q19, w19 0, w19 1, w19 2, w19 3, w19 4, w19 5, w19 6, w19 7, w19 8, w19 9, w19 10, w19 11, w19 12, w19 13, w19 14, w19 15, w19 16, w19 17, w19 18, w19 19, w19 20, w19 21, w19 22, w19 23, w19 24, w19 25, w19 26, w19 27, w19 28, w19 29, w19 30, w19 31, w19 32, w19 33, w19 34, w19 35, w19 36, w19 37, w19 38, w19 39, w19 40] : List Nat).getD k 0, rfl, by rw [ht]; exact hP, hD⟩, hS.F ht⟩) hS.2.2 dX1_init_31 hlocks
