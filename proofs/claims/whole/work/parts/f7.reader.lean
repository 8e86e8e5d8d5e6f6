theorem dX4_init_0 : decode cX4_init 0 = .ok (.aload_n 0, 1) := by decide +kernel
theorem dX4_init_1 : decode cX4_init 1 = .ok (.invokespecial 3, 3) := by decide +kernel
theorem dX4_init_4 : decode cX4_init 4 = .ok (.aload_n 0, 1) := by decide +kernel
theorem dX4_init_5 : decode cX4_init 5 = .ok (.iconst 0, 1) := by decide +kernel
theorem dX4_init_6 : decode cX4_init 6 = .ok (.putfield 9, 3) := by decide +kernel
theorem dX4_init_9 : decode cX4_init 9 = .ok (.aload_n 0, 1) := by decide +kernel
theorem dX4_init_10 : decode cX4_init 10 = .ok (.iconst (-1), 1) := by decide +kernel
theorem dX4_init_11 : decode cX4_init 11 = .ok (.putfield 15, 3) := by decide +kernel
theorem dX4_init_14 : decode cX4_init 14 = .ok (.aload_n 0, 1) := by decide +kernel
theorem dX4_init_15 : decode cX4_init 15 = .ok (.bipush 21, 2) := by decide +kernel
theorem dX4_init_17 : decode cX4_init 17 = .ok (.newarray .long, 2) := by decide +kernel
theorem dX4_init_19 : decode cX4_init 19 = .ok (.putfield 18, 3) := by decide +kernel
theorem dX4_init_22 : decode cX4_init 22 = .ok (.aload_n 0, 1) := by decide +kernel
theorem dX4_init_23 : decode cX4_init 23 = .ok (.iconst 0, 1) := by decide +kernel
theorem dX4_init_24 : decode cX4_init 24 = .ok (.putfield 22, 3) := by decide +kernel
theorem dX4_init_27 : decode cX4_init 27 = .ok (.aload_n 0, 1) := by decide +kernel
theorem dX4_init_28 : decode cX4_init 28 = .ok (.iconst 0, 1) := by decide +kernel
theorem dX4_init_29 : decode cX4_init 29 = .ok (.putfield 25, 3) := by decide +kernel
theorem dX4_init_32 : decode cX4_init 32 = .ok (.aload_n 0, 1) := by decide +kernel
theorem dX4_init_33 : decode cX4_init 33 = .ok (.bipush 102, 2) := by decide +kernel
theorem dX4_init_35 : decode cX4_init 35 = .ok (.putfield 28, 3) := by decide +kernel
theorem dX4_init_38 : decode cX4_init 38 = .ok (.aload_n 0, 1) := by decide +kernel
theorem dX4_init_39 : decode cX4_init 39 = .ok (.iconst 0, 1) := by decide +kernel
theorem dX4_init_40 : decode cX4_init 40 = .ok (.putfield 31, 3) := by decide +kernel
theorem dX4_init_43 : decode cX4_init 43 = .ok (.aload_n 0, 1) := by decide +kernel
theorem dX4_init_44 : decode cX4_init 44 = .ok (.lconst 0, 1) := by decide +kernel
theorem dX4_init_45 : decode cX4_init 45 = .ok (.putfield 34, 3) := by decide +kernel
theorem dX4_init_48 : decode cX4_init 48 = .ok (.aload_n 0, 1) := by decide +kernel
theorem dX4_init_49 : decode cX4_init 49 = .ok (.iconst 0, 1) := by decide +kernel
theorem dX4_init_50 : decode cX4_init 50 = .ok (.putfield 38, 3) := by decide +kernel
theorem dX4_init_53 : decode cX4_init 53 = .ok (.aload_n 0, 1) := by decide +kernel
theorem dX4_init_54 : decode cX4_init 54 = .ok (.iconst 0, 1) := by decide +kernel
theorem dX4_init_55 : decode cX4_init 55 = .ok (.putfield 41, 3) := by decide +kernel
theorem dX4_init_58 : decode cX4_init 58 = .ok (.aload_n 0, 1) := by decide +kernel
theorem dX4_init_59 : decode cX4_init 59 = .ok (.aload_n 1, 1) := by decide +kernel
theorem dX4_init_60 : decode cX4_init 60 = .ok (.putfield 44, 3) := by decide +kernel
theorem dX4_init_63 : decode cX4_init 63 = .ok (.aload_n 0, 1) := by decide +kernel
theorem dX4_init_64 : decode cX4_init 64 = .ok (.aload_n 2, 1) := by decide +kernel
theorem dX4_init_65 : decode cX4_init 65 = .ok (.putfield 48, 3) := by decide +kernel
theorem dX4_init_68 : decode cX4_init 68 = .ok (.iconst 0, 1) := by decide +kernel
theorem dX4_init_69 : decode cX4_init 69 = .ok (.istore_n 3, 1) := by decide +kernel
theorem dX4_init_70 : decode cX4_init 70 = .ok (.iconst 0, 1) := by decide +kernel
theorem dX4_init_71 : decode cX4_init 71 = .ok (.istore 4, 2) := by decide +kernel
theorem dX4_init_73 : decode cX4_init 73 = .ok (.iload 4, 2) := by decide +kernel
theorem dX4_init_75 : decode cX4_init 75 = .ok (.ldc 52, 2) := by decide +kernel
theorem dX4_init_77 : decode cX4_init 77 = .ok (.invokevirtual 54, 3) := by decide +kernel
theorem dX4_init_80 : decode cX4_init 80 = .ok (.if_icmp .ge 55, 3) := by decide +kernel
theorem dX4_init_83 : decode cX4_init 83 = .ok (.iload_n 3, 1) := by decide +kernel
theorem dX4_init_84 : decode cX4_init 84 = .ok (.bipush 21, 2) := by decide +kernel
theorem dX4_init_86 : decode cX4_init 86 = .ok (.if_icmp .ge 49, 3) := by decide +kernel
theorem dX4_init_89 : decode cX4_init 89 = .ok (.ldc 52, 2) := by decide +kernel
theorem dX4_init_91 : decode cX4_init 91 = .ok (.iload 4, 2) := by decide +kernel
theorem dX4_init_93 : decode cX4_init 93 = .ok (.invokevirtual 59, 3) := by decide +kernel
theorem dX4_init_96 : decode cX4_init 96 = .ok (.bipush 32, 2) := by decide +kernel
theorem dX4_init_98 : decode cX4_init 98 = .ok (.if_icmp .ne 9, 3) := by decide +kernel
theorem dX4_init_101 : decode cX4_init 101 = .ok (.iinc 3 1, 3) := by decide +kernel
theorem dX4_init_104 : decode cX4_init 104 = .ok (.goto 25, 3) := by decide +kernel
theorem dX4_init_107 : decode cX4_init 107 = .ok (.aload_n 0, 1) := by decide +kernel
theorem dX4_init_108 : decode cX4_init 108 = .ok (.getfield 18, 3) := by decide +kernel
theorem dX4_init_111 : decode cX4_init 111 = .ok (.iload_n 3, 1) := by decide +kernel
theorem dX4_init_112 : decode cX4_init 112 = .ok (.aload_n 0, 1) := by decide +kernel
theorem dX4_init_113 : decode cX4_init 113 = .ok (.getfield 18, 3) := by decide +kernel
theorem dX4_init_116 : decode cX4_init 116 = .ok (.iload_n 3, 1) := by decide +kernel
theorem dX4_init_117 : decode cX4_init 117 = .ok (.laload, 1) := by decide +kernel
theorem dX4_init_118 : decode cX4_init 118 = .ok (.ldc 52, 2) := by decide +kernel
theorem dX4_init_120 : decode cX4_init 120 = .ok (.iload 4, 2) := by decide +kernel
theorem dX4_init_122 : decode cX4_init 122 = .ok (.invokevirtual 59, 3) := by decide +kernel
theorem dX4_init_125 : decode cX4_init 125 = .ok (.invokestatic 63, 3) := by decide +kernel
theorem dX4_init_128 : decode cX4_init 128 = .ok (.lastore, 1) := by decide +kernel
theorem dX4_init_129 : decode cX4_init 129 = .ok (.iinc 4 1, 3) := by decide +kernel
theorem dX4_init_132 : decode cX4_init 132 = .ok (.goto (-59), 3) := by decide +kernel
theorem dX4_init_135 : decode cX4_init 135 = .ok (.return_, 1) := by decide +kernel
theorem dX4_behind_0 : decode cX4_behind 0 = .ok (.lload_n 0, 1) := by decide +kernel
theorem dX4_behind_1 : decode cX4_behind 1 = .ok (.iconst 5, 1) := by decide +kernel
theorem dX4_behind_2 : decode cX4_behind 2 = .ok (.lshl, 1) := by decide +kernel
theorem dX4_behind_3 : decode cX4_behind 3 = .ok (.iload_n 2, 1) := by decide +kernel
theorem dX4_behind_4 : decode cX4_behind 4 = .ok (.bipush 97, 2) := by decide +kernel
theorem dX4_behind_6 : decode cX4_behind 6 = .ok (.isub, 1) := by decide +kernel
theorem dX4_behind_7 : decode cX4_behind 7 = .ok (.iconst 1, 1) := by decide +kernel
theorem dX4_behind_8 : decode cX4_behind 8 = .ok (.iadd, 1) := by decide +kernel
theorem dX4_behind_9 : decode cX4_behind 9 = .ok (.i2l, 1) := by decide +kernel
theorem dX4_behind_10 : decode cX4_behind 10 = .ok (.lor, 1) := by decide +kernel
theorem dX4_behind_11 : decode cX4_behind 11 = .ok (.lreturn, 1) := by decide +kernel
def wb_ : List Int32 := [115, 107, 105, 108, 108, 32, 111, 114, 100, 101, 114, 32, 97, 115, 107, 115, 32, 115, 101, 97, 108, 32, 119, 101, 105, 103, 104, 116, 32, 119, 111, 114, 116, 104, 32, 112, 97, 114, 105, 115, 104, 32, 111, 100, 100, 115, 32, 112, 101, 114, 115, 111, 110, 32, 111, 102, 32, 97, 103, 101, 32, 117, 110, 100, 111, 101, 115, 32, 116, 101, 97, 99, 104, 32, 111, 112, 101, 110, 32, 100, 114, 97, 119, 32, 111, 114, 32, 97, 110, 100, 32, 110, 111, 116, 32, 108, 101, 118, 101, 108, 32, 121, 101, 97, 114, 32, 119, 104, 105, 99, 104]
def wtxt_ : String := "skill order asks seal weight worth parish odds person of age undoes teach open draw or and not level year which"
def bh_ (x : Int64) (y : Int32) : Int64 := (x <<< ((5 : Int32).toInt64 &&& 63)) ||| (y - 97 + 1).toInt64
def rd1_ (st : Nat × (Nat → Int64)) (b : Int32) : Nat × (Nat → Int64) := if cc8_ b = 32 then (st.1 + 1, st.2) else (st.1, vp_updL st.2 st.1 (bh_ (st.2 st.1) (cc8_ b)))
def nsp_ : List Int32 → Nat
  | [] => 0
  | b :: l => (if cc8_ b = 32 then 1 else 0) + nsp_ l
def wF_ : Nat → Int64 := (wb_.foldl rd1_ (0, fun _ => Int64.ofInt 0)).2
def kS_ (kS kB : Nat) (A : Nat → Prop) (U : State) (H : Heap) : Prop := vk_R RX4 52 wtxt_ kS U ∧ vk_S 1 [111] [wb_] (fun _ => kS) (fun _ => kB) A U H ∧ va_Z "java/lang/String" "COMPACT_STRINGS" "Z" (.int 1) A U H ∧ va_Zq "jdk/internal/util/Preconditions" "SIOOBE_FORMATTER" "Ljava/util/function/BiFunction;" A U H
theorem kS_.go {kS kB : Nat} {A B : Nat → Prop} {s U : State} {H : Heap} {locs : List Loc} (hW : s.WarmedH U.vm) (hV : va_S A s.heap H locs) (hB : ∀ q, B q → A q) (h : kS_ kS kB A s s.heap) : kS_ kS kB B U H := by
  obtain ⟨h1, h2, h3, h4⟩ := h
  exact ⟨h1.warm hW, ((h2.moved hW.alike).kept hV.2.1).narrow hB, ((h3.moved hW.alike).kept hV.2.1).narrow hB, ((h4.moved hW.alike).kept hV.2.1).narrow hB⟩
theorem kS_.same {kS kB : Nat} {A : Nat → Prop} {s U : State} {H : Heap} (hv : U.vm = s.vm) (h : kS_ kS kB A s H) : kS_ kS kB A U H := by
  obtain ⟨h1, h2, h3, h4⟩ := h
  have hal : s.vm.Alike U.vm := by rw [hv]; exact Vm.Alike.refl _
  exact ⟨h1.same hv, h2.moved hal, h3.moved hal, h4.moved hal⟩
def kPs_ (cT : Nat → ClassId) (D : va_G) (h0 sz : Nat) (e : va_E) (kS kB : Nat) (U : State) : Prop := kP_ cT D h0 sz e U ∧ kS_ kS kB (fr0 h0 sz) U U.heap
theorem kPs_blind {cT : Nat → ClassId} {D : va_G} {h0 sz : Nat} {e : va_E} {kS kB : Nat} (as : List Value) : FrameBlind (va_Pc as (kPs_ cT D h0 sz e kS kB)) := by
  intro a U g mk h
  obtain ⟨h1, ⟨h2, h3, h4⟩, h5⟩ := h
  exact ⟨h1, ⟨h2, h3, kC_.same (s := U) (U := U.calling g mk a) rfl h4⟩, kS_.same (s := U) (U := U.calling g mk a) rfl h5⟩
set_option maxHeartbeats 4000000 in
set_option maxRecDepth 100000 in
theorem jc_behind (l : Launch) (x : Int64) (y : Int32) : Met l yX4_behind (Cond.code yX4_behind cX4_behind 3 (some .long) :: am_WL) (js_rm 0) (va_Pc [.long x, .int y] (fun _ => True)) (js_Q (some (.long (bh_ x y)))) 0 0 (fun _ => False) := by
  refine Met.ofW (cc := cX4_behind) (maxL := 3) (ret := some .long) (by decide) rfl ?_
  intro p e s m args below meth c s₁ B hml hv
  obtain ⟨rfl, hv⟩ := hv
  have hx := B.exec
  have hb := B.bytes
  have hr := B.returns
  have hts0 := atoms_spec (ws := Cond.code yX4_behind cX4_behind 3 (some .long) :: am_WL) B.pre
  have hts : ∀ w ∈ am_WL, w.before ([.long x, .int y].toArray) s = true := fun w hw => hts0 w (List.mem_cons_of_mem _ hw)
  have hown : s.vm.findClass RX4 = some m.cls := findClass_of_methodNamed B.named
  have hlocks := B.notSynchronized
  have hS : va_S (fun _ => False) s.heap s.heap [] := va_S.rf
  have hl := lv_entry ([.long x, .int y]) (n := 3) (Nat.le_of_ble_eq_true rfl)
  rw [lg_entry_eq]
  generalize (lg_sl ([.long x, .int y]) ++ List.replicate (3 - (lg_sl ([.long x, .int y])).length) Slot.unset).toArray = ls at hl ⊢
  have hl : lv_has ls 3 [(0, .long x), (2, .int y)] := hl
  refine lv_lload_n hx hb dX4_behind_0 rfl (lv_at hl 0 rfl) ?_
  refine lv_iconst (v := 5) hx hb dX4_behind_1 (by decide) ?_
  refine lv_lshl (v := x <<< ((5 : Int32).toInt64 &&& 63)) hx hb dX4_behind_2 rfl ?_
  refine lv_iload_n hx hb dX4_behind_3 rfl (lv_at hl 1 rfl) ?_
  refine lv_bipush (v := 97) hx hb dX4_behind_4 (by decide) ?_
  refine lv_isub hx hb dX4_behind_6 ?_
  refine lv_iconst (v := 1) hx hb dX4_behind_7 (by decide) ?_
  refine lv_iadd hx hb dX4_behind_8 ?_
  refine lv_i2l (v := (y - 97 + 1).toInt64) hx hb dX4_behind_9 rfl ?_
  refine lv_lor hx hb dX4_behind_10 ?_
  exact W.lret hx hb hr (fun t ht hW => ⟨rfl, hS.F ht⟩) hS.2.2 dX4_behind_11 hlocks
def kW_4 (cT : Nat → ClassId) (r1 : Nat) (r2 : Nat) (ad : Nat → Nat) : va_W := [(ad 0, .inr (4, [.int (Int32.ofInt 0), .int (Int32.ofInt (-1)), .ref (ad 1), .ref r1, .int (Int32.ofInt 0), .int (Int32.ofInt 0), .int (Int32.ofInt 102), .int (Int32.ofInt 0), .long (Int64.ofInt 0), .int (Int32.ofInt 0), .ref r2, .int (Int32.ofInt 0)])),
  (ad 1, .inl (cT 3, 21, .inr (.inl wF_)))]
set_option maxHeartbeats 8000000 in
set_option maxRecDepth 100000 in
theorem rd_loop {p : Program} {l : Launch} {e : Env} {s : State} {m : MethodId} {args : Array Value} {below : List Frame} {meth : Method} {c : Code} {cT : Nat → ClassId} {D : va_G} {h0 r1 r2 q kS kB : Nat} (hx : p.tables.exec = Jvm.exec) (hb : c.code = cX4_init) (hr : meth.sig.returnType = none) (hlocks : meth.locks = false) (hml : c.maxLocals = 5) (hown : s.vm.findClass RX4 = some m.cls) (hts : ∀ w ∈ am_WL, w.before args s = true) (hK : va_K D am_cl (am_tys cT) s) (hZ : kS_ kS kB (fr0 h0 s.heap.size) s s.heap) :
    ∀ (lst : List Int32) (k w : Nat) (f : Nat → Int64) (H : Heap) (locs : List Loc) (ls : Array Slot), wb_.drop k = lst → k + lst.length = 111 → w + nsp_ lst ≤ 20 → (lst.foldl rd1_ (w, f)).2 = wF_ → va_P D am_cl [(h0, .inr (4, [.int (Int32.ofInt 0), .int (Int32.ofInt (-1)), .ref q, .ref r1, .int (Int32.ofInt 0), .int (Int32.ofInt 0), .int (Int32.ofInt 102), .int (Int32.ofInt 0), .long (Int64.ofInt 0), .int (Int32.ofInt 0), .ref r2, .int (Int32.ofInt 0)])), (q, .inl (cT 3, 21, .inr (.inl f)))] H → va_D (fr0 h0 s.heap.size) [(h0, .inr (4, [.int (Int32.ofInt 0), .int (Int32.ofInt (-1)), .ref q, .ref r1, .int (Int32.ofInt 0), .int (Int32.ofInt 0), .int (Int32.ofInt 102), .int (Int32.ofInt 0), .long (Int64.ofInt 0), .int (Int32.ofInt 0), .ref r2, .int (Int32.ofInt 0)])), (q, .inl (cT 3, 21, .inr (.inl f)))] → va_S (fr0 h0 s.heap.size) s.heap H locs → lv_has ls 5 [(4, .int (nI k)), (3, .int (nI w)), (0, .ref h0), (1, .ref r1), (2, .ref r2)] → W p l e (kR_ 4 1 21) s m args below meth c H locs 1 21 (MQ below (kQ_ D (kW_4 cT r1 r2) h0 s.heap.size) args s 1 21 (fr0 h0 s.heap.size)) (F0 m 73 ls []) := by
  intro lst
  induction lst with
  | nil =>
    intro k w f H locs ls hd hk9 hsp hF hP hD hS hl
    have hkn : k = 111 := by simpa using hk9
    refine lv_iload hx hb dX4_init_73 (lv_at hl 0 rfl) ?_
    refine va_ldcS hx hb hown hZ.1 dX4_init_75 ?_
    refine js_callX (va_runV (C := "java/lang/String") (b := kS) (As := []) (rest := [.int (nI k)]) ⟨hx, hb, hml, hown, hts⟩ (jc_length l (N := 1) (len := [111]) (byt := [wb_]) (adK := fun _ => kS) (adV := fun _ => kB) (i := 0) (by decide) (by decide)) ⟨(callB_of 0 hts (js_goodIn (tb_1 (n := 142) rfl rfl)) rfl rfl rfl (hts _ (tb_1 (n := 5) rfl rfl)) (hts _ (tb_1 (n := 139) rfl rfl)) ⟨by decide +kernel, by decide +kernel, by decide +kernel⟩ ⟨Nat.le_of_ble_eq_true rfl, Nat.le_of_ble_eq_true rfl⟩), hts _ (tb_1 (n := 140) rfl rfl), hts _ (tb_1 (n := 141) rfl rfl)⟩ ⟨js_bP _, vk_recv (i := 0) hZ.2.1 (by decide) hS, fun U hU hW => ⟨rfl, js_goP hZ.2.1 hZ.2.2.1 hS hU hW⟩⟩ rfl rfl hl.1 rfl (lv_room (Nat.le_of_ble_eq_true rfl)) dX4_init_77 ⟨Nat.le_of_ble_eq_true rfl, Nat.le_of_ble_eq_true rfl⟩) hS (fun H locs hsz hk hS => ?_)
    have hP := hP.kept (fun k q h => hk q.1 (hP k q h).lt)
    refine lv_icmp_ge (tgt := 135) hx hb dX4_init_80 (by decide) (fun _ => ?_) (fun h => absurd (by rw [hkn]; exact Int32.le_refl _) h)
    have hF : f = wF_ := hF
    subst hF
    refine W.vret hx hb hr (fun t ht hW => ⟨⟨rfl, fun k => ([h0, q] : List Nat).getD k 0, rfl, by rw [ht]; exact hP, hD⟩, hS.F ht⟩) hS.2.2 dX4_init_135 hlocks
  | cons b lst ih =>
    intro k w f H locs ls hd hk9 hsp hF hP hD hS hl
    obtain ⟨g1, g2, g3⟩ := jx_drop hd
    rw [List.length_cons] at hk9
    have hkn : k < 111 := by omega
    have hw : w < 21 := by omega
    have ew : (nI w).toNatClampNeg = w := nI_clamp (by omega)
    have hin : vp_in (nI w) 21 := vp_in_nI hw (by decide)
    refine lv_iload hx hb dX4_init_73 (lv_at hl 0 rfl) ?_
    refine va_ldcS hx hb hown hZ.1 dX4_init_75 ?_
    refine js_callX (va_runV (C := "java/lang/String") (b := kS) (As := []) (rest := [.int (nI k)]) ⟨hx, hb, hml, hown, hts⟩ (jc_length l (N := 1) (len := [111]) (byt := [wb_]) (adK := fun _ => kS) (adV := fun _ => kB) (i := 0) (by decide) (by decide)) ⟨(callB_of 0 hts (js_goodIn (tb_1 (n := 142) rfl rfl)) rfl rfl rfl (hts _ (tb_1 (n := 5) rfl rfl)) (hts _ (tb_1 (n := 139) rfl rfl)) ⟨by decide +kernel, by decide +kernel, by decide +kernel⟩ ⟨Nat.le_of_ble_eq_true rfl, Nat.le_of_ble_eq_true rfl⟩), hts _ (tb_1 (n := 140) rfl rfl), hts _ (tb_1 (n := 141) rfl rfl)⟩ ⟨js_bP _, vk_recv (i := 0) hZ.2.1 (by decide) hS, fun U hU hW => ⟨rfl, js_goP hZ.2.1 hZ.2.2.1 hS hU hW⟩⟩ rfl rfl hl.1 rfl (lv_room (Nat.le_of_ble_eq_true rfl)) dX4_init_77 ⟨Nat.le_of_ble_eq_true rfl, Nat.le_of_ble_eq_true rfl⟩) hS (fun H locs hsz hk hS => ?_)
    have hP := hP.kept (fun k q h => hk q.1 (hP k q h).lt)
    refine lv_icmp_ge (tgt := 135) hx hb dX4_init_80 (by decide) (fun h => absurd h (nI_ge (b := 111) hkn (by decide))) (fun _ => ?_)
    refine lv_iload_n hx hb dX4_init_83 rfl (lv_at hl 1 rfl) ?_
    refine lv_bipush (v := nI 21) hx hb dX4_init_84 (by decide) ?_
    refine lv_icmp_ge (tgt := 135) hx hb dX4_init_86 (by decide) (fun h => absurd h (nI_ge hw (by decide))) (fun _ => ?_)
    refine va_ldcS hx hb hown hZ.1 dX4_init_89 ?_
    refine lv_iload hx hb dX4_init_91 (lv_at hl 0 rfl) ?_
    refine js_callX (va_runV (C := "java/lang/String") (b := kS) (As := [.int (nI k)]) (rest := []) ⟨hx, hb, hml, hown, hts⟩ (jc_charAt l (N := 1) (len := [111]) (byt := [wb_]) (adK := fun _ => kS) (adV := fun _ => kB) (i := 0) (by decide) (by decide) k (show k < 111 by omega)) ⟨(callB_of 1 hts (js_goodIn (tb_1 (n := 152) rfl rfl)) rfl rfl rfl (hts _ (tb_1 (n := 5) rfl rfl)) (hts _ (tb_1 (n := 149) rfl rfl)) ⟨by decide +kernel, by decide +kernel, by decide +kernel⟩ ⟨Nat.le_of_ble_eq_true rfl, Nat.le_of_ble_eq_true rfl⟩), hts _ (tb_1 (n := 150) rfl rfl), hts _ (tb_1 (n := 151) rfl rfl)⟩ ⟨js_bPq _, vk_recv (i := 0) hZ.2.1 (by decide) hS, fun U hU hW => ⟨rfl, ⟨js_goP hZ.2.1 hZ.2.2.1 hS hU hW, js_goq hZ.2.2.2 hS hU hW⟩⟩⟩ rfl rfl hl.1 rfl (lv_room (Nat.le_of_ble_eq_true rfl)) dX4_init_93 ⟨Nat.le_of_ble_eq_true rfl, Nat.le_of_ble_eq_true rfl⟩) hS (fun H locs hsz hk hS => ?_)
    have hP := hP.kept (fun k q h => hk q.1 (hP k q h).lt)
    refine lv_bipush (v := 32) hx hb dX4_init_96 (by decide) ?_
    have eb : ([wb_].getD 0 []).getD k 0 = b := g2
    rw [eb]
    refine lv_icmp_ne (tgt := 107) hx hb dX4_init_98 (by decide) (fun h => ?_) (fun h => ?_)
    · refine lv_aload_n hx hb dX4_init_107 rfl (lv_at hl 2 rfl) ?_
      refine va_get (D := D) (ci := 4) (v := .ref q) (C := RX4) (T := TX4) (N := 12) hx hb hts am_ws_4 hown hK hP 0 rfl rfl 2 (by decide) (hts _ (tb_1 (n := 194) rfl rfl)) (fun _ h9 => h9) rfl dX4_init_108 ?_
      refine lv_iload_n hx hb dX4_init_111 rfl (lv_at hl 1 rfl) ?_
      refine lv_aload_n hx hb dX4_init_112 rfl (lv_at hl 2 rfl) ?_
      refine va_get (D := D) (ci := 4) (v := .ref q) (C := RX4) (T := TX4) (N := 12) hx hb hts am_ws_4 hown hK hP 0 rfl rfl 2 (by decide) (hts _ (tb_1 (n := 194) rfl rfl)) (fun _ h9 => h9) rfl dX4_init_113 ?_
      refine lv_iload_n hx hb dX4_init_116 rfl (lv_at hl 1 rfl) ?_
      refine va_lald (D := D) hx hb hK hP 1 3 rfl rfl hin dX4_init_117 ?_
      rw [ew]
      refine va_ldcS hx hb hown hZ.1 dX4_init_118 ?_
      refine lv_iload hx hb dX4_init_120 (lv_at hl 0 rfl) ?_
      refine js_callX (va_runV (C := "java/lang/String") (b := kS) (As := [.int (nI k)]) (rest := [.long (f w), .int (nI w), .ref q]) ⟨hx, hb, hml, hown, hts⟩ (jc_charAt l (N := 1) (len := [111]) (byt := [wb_]) (adK := fun _ => kS) (adV := fun _ => kB) (i := 0) (by decide) (by decide) k (show k < 111 by omega)) ⟨(callB_of 1 hts (js_goodIn (tb_1 (n := 152) rfl rfl)) rfl rfl rfl (hts _ (tb_1 (n := 5) rfl rfl)) (hts _ (tb_1 (n := 149) rfl rfl)) ⟨by decide +kernel, by decide +kernel, by decide +kernel⟩ ⟨Nat.le_of_ble_eq_true rfl, Nat.le_of_ble_eq_true rfl⟩), hts _ (tb_1 (n := 150) rfl rfl), hts _ (tb_1 (n := 151) rfl rfl)⟩ ⟨js_bPq _, vk_recv (i := 0) hZ.2.1 (by decide) hS, fun U hU hW => ⟨rfl, ⟨js_goP hZ.2.1 hZ.2.2.1 hS hU hW, js_goq hZ.2.2.2 hS hU hW⟩⟩⟩ rfl rfl hl.1 rfl (lv_room (Nat.le_of_ble_eq_true rfl)) dX4_init_122 ⟨Nat.le_of_ble_eq_true rfl, Nat.le_of_ble_eq_true rfl⟩) hS (fun H locs hsz hk hS => ?_)
      have hP := hP.kept (fun k q h => hk q.1 (hP k q h).lt)
      rw [eb]
      refine js_callX (va_runS (As := [.long (f w), .int (cc8_ b)]) (rest := [.int (nI w), .ref q]) ⟨hx, hb, hml, hown, hts⟩ (jc_behind l (f w) (cc8_ b)) ⟨(callB_of 2 hts (js_goodIn (tb_1 (n := 189) rfl rfl)) rfl rfl rfl (hts _ (tb_1 (n := 4) rfl rfl)) (hts _ (tb_1 (n := 187) rfl rfl)) ⟨by decide +kernel, by decide +kernel, by decide +kernel⟩ ⟨Nat.le_of_ble_eq_true rfl, Nat.le_of_ble_eq_true rfl⟩), hts _ (tb_1 (n := 188) rfl rfl)⟩ ⟨js_b0 _, fun U hU hW => ⟨rfl, trivial⟩⟩ rfl rfl hl.1 rfl (lv_room (Nat.le_of_ble_eq_true rfl)) dX4_init_125 ⟨Nat.le_of_ble_eq_true rfl, Nat.le_of_ble_eq_true rfl⟩) hS (fun H locs hsz hk hS => ?_)
      have hP := hP.kept (fun k q h => hk q.1 (hP k q h).lt)
      refine va_last (D := D) hx hb hK hP hD hS 1 3 rfl rfl hin dX4_init_128 (fun H locs hP hD hS => ?_)
      rw [ew] at hP hD
      refine lv_iinc (v := nI (k + 1)) (lv' := [(4, .int (nI (k + 1))), (3, .int (nI w)), (0, .ref h0), (1, .ref r1), (2, .ref r2)]) hx hb dX4_init_129 hl (k := 0) rfl (nI_1 k) (by decide) rfl (fun ls hl => ?_)
      refine lv_goto (tgt := 73) hx hb dX4_init_132 (by decide) ?_
      refine ih (k + 1) w (vp_updL f w (bh_ (f w) (cc8_ b))) H locs ls g3 (by omega) (by rw [nsp_, if_neg h] at hsp; omega) ?_ hP hD hS hl
      rw [List.foldl_cons] at hF
      rw [← hF]
      unfold rd1_
      rw [if_neg h]
    · refine lv_iinc (v := nI (w + 1)) (lv' := [(3, .int (nI (w + 1))), (4, .int (nI k)), (0, .ref h0), (1, .ref r1), (2, .ref r2)]) hx hb dX4_init_101 hl (k := 1) rfl (nI_1 w) (by decide) rfl (fun ls hl => ?_)
      refine lv_goto (tgt := 129) hx hb dX4_init_104 (by decide) ?_
      refine lv_iinc (v := nI (k + 1)) (lv' := [(4, .int (nI (k + 1))), (3, .int (nI (w + 1))), (0, .ref h0), (1, .ref r1), (2, .ref r2)]) hx hb dX4_init_129 hl (k := 1) rfl (nI_1 k) (by decide) rfl (fun ls hl => ?_)
      refine lv_goto (tgt := 73) hx hb dX4_init_132 (by decide) ?_
      refine ih (k + 1) (w + 1) f H locs ls g3 (by omega) (by rw [nsp_, if_pos h] at hsp; omega) ?_ hP hD hS hl
      rw [List.foldl_cons] at hF
      rw [← hF]
      show _ = (List.foldl rd1_ (rd1_ (w, f) b) lst).2
      have e1 : rd1_ (w, f) b = (w + 1, f) := by
        unfold rd1_
        rw [if_pos h]
      rw [e1]
set_option maxHeartbeats 8000000 in
set_option maxRecDepth 100000 in
theorem kn_4 (l : Launch) (cT : Nat → ClassId) (D : va_G) (h0 sz kS kB : Nat) (r1 : Nat) (r2 : Nat) : Met l yX4_init (Cond.code yX4_init cX4_init 5 none :: am_WL) (kR_ 4 1 21) (va_Pc [.ref h0, .ref r1, .ref r2] (kPs_ cT D h0 sz (.inr (4, [.int (Int32.ofInt 0), .int (Int32.ofInt 0), .null, .null, .int (Int32.ofInt 0), .int (Int32.ofInt 0), .int (Int32.ofInt 0), .int (Int32.ofInt 0), .long (Int64.ofInt 0), .int (Int32.ofInt 0), .null, .int (Int32.ofInt 0)])) kS kB)) (kQ_ D (kW_4 cT r1 r2) h0 sz) 1 21 (fr0 h0 sz) := by
  refine Met.ofW (cc := cX4_init) (maxL := 5) (ret := none) (by decide) rfl ?_
  intro p e s m args below meth c s₁ B hml hv
  obtain ⟨rfl, ⟨hsz, hP, hC⟩, hZ⟩ := hv
  have hx := B.exec
  have hb := B.bytes
  have hr := B.returns
  have hts0 := atoms_spec (ws := Cond.code yX4_init cX4_init 5 none :: am_WL) B.pre
  have hts : ∀ w ∈ am_WL, w.before ([.ref h0, .ref r1, .ref r2].toArray) s = true := fun w hw => hts0 w (List.mem_cons_of_mem _ hw)
  have hown : s.vm.findClass RX4 = some m.cls := findClass_of_methodNamed B.named
  have hlocks := B.notSynchronized
  have hin : meth.name = "<init>" := (name_of_methodNamed B.named B.method).1
  subst hsz
  have hK := hC.1
  have hA : ∀ q : Nat, s.heap.size ≤ q → fr0 h0 s.heap.size q := fun q h => Or.inr h
  have hD : va_D (fr0 h0 s.heap.size) [(h0, .inr (4, [.int (Int32.ofInt 0), .int (Int32.ofInt 0), .null, .null, .int (Int32.ofInt 0), .int (Int32.ofInt 0), .int (Int32.ofInt 0), .int (Int32.ofInt 0), .long (Int64.ofInt 0), .int (Int32.ofInt 0), .null, .int (Int32.ofInt 0)]))] := d1_
  have hS : va_S (fr0 h0 s.heap.size) s.heap s.heap [] := va_S.rf
  have hl := lv_entry ([.ref h0, .ref r1, .ref r2]) (n := 5) (Nat.le_of_ble_eq_true rfl)
  rw [lg_entry_eq]
  generalize (lg_sl ([.ref h0, .ref r1, .ref r2]) ++ List.replicate (5 - (lg_sl ([.ref h0, .ref r1, .ref r2])).length) Slot.unset).toArray = ls at hl ⊢
  have hl : lv_has ls 5 [(0, .ref h0), (1, .ref r1), (2, .ref r2)] := hl
  have hD : va_D (fr0 h0 s.heap.size) ((h0, .inr (4, [.int (Int32.ofInt 0), .int (Int32.ofInt 0), .null, .null, .int (Int32.ofInt 0), .int (Int32.ofInt 0), .int (Int32.ofInt 0), .int (Int32.ofInt 0), .long (Int64.ofInt 0), .int (Int32.ofInt 0), .null, .int (Int32.ofInt 0)])) :: ([] : va_W)) := hD
  have hP : va_P D am_cl ((h0, .inr (4, [.int (Int32.ofInt 0), .int (Int32.ofInt 0), .null, .null, .int (Int32.ofInt 0), .int (Int32.ofInt 0), .int (Int32.ofInt 0), .int (Int32.ofInt 0), .long (Int64.ofInt 0), .int (Int32.ofInt 0), .null, .int (Int32.ofInt 0)])) :: ([] : va_W)) s.heap := hP
  generalize eX0 : ([] : va_W) = X0 at hP hD
  refine lv_aload_n hx hb dX4_init_0 rfl (lv_at hl 0 rfl) ?_
  refine W.objInit hx hb hown (hts _ (tb_1 (n := 137) rfl rfl)) (hts _ (tb_1 (n := 25) rfl rfl)) (hts (.code objectInit ⟨#[0xb1]⟩ 1 none) (tb_1 (n := 26) rfl rfl)) rfl (by rw [hml]; exact hl.1) rfl dX4_init_1 (Nat.le_of_ble_eq_true rfl) (Nat.le_of_ble_eq_true rfl) ?_
  refine W.eq (g2 := F0 m 4 ls []) rfl ?_
  refine lv_aload_n hx hb dX4_init_4 rfl (lv_at hl 0 rfl) ?_
  refine lv_iconst (v := Int32.ofInt 0) hx hb dX4_init_5 rfl ?_
  refine va_put (D := D) (ci := 4) (v := .int (Int32.ofInt 0)) (ty := .int) (C := RX4) (T := TX4) (N := 12) hx hb hts am_ws_4 tyX4 tyX4_ok nmX4 hown hK hP hD hS 0 rfl rfl 0 (by decide) (hts _ (tb_1 (n := 190) rfl rfl)) (fun _ h9 => h9) rfl (tyX4_ok 0 (by decide)) rfl rfl (Nat.le_of_ble_eq_true rfl) dX4_init_6 (fun H locs hP hD hS => ?_)
  have hP : va_P D am_cl ((h0, .inr (4, [.int (Int32.ofInt 0), .int (Int32.ofInt 0), .null, .null, .int (Int32.ofInt 0), .int (Int32.ofInt 0), .int (Int32.ofInt 0), .int (Int32.ofInt 0), .long (Int64.ofInt 0), .int (Int32.ofInt 0), .null, .int (Int32.ofInt 0)])) :: X0) H := hP
  have hD : va_D (fr0 h0 s.heap.size) ((h0, .inr (4, [.int (Int32.ofInt 0), .int (Int32.ofInt 0), .null, .null, .int (Int32.ofInt 0), .int (Int32.ofInt 0), .int (Int32.ofInt 0), .int (Int32.ofInt 0), .long (Int64.ofInt 0), .int (Int32.ofInt 0), .null, .int (Int32.ofInt 0)])) :: X0) := hD
  refine lv_aload_n hx hb dX4_init_9 rfl (lv_at hl 0 rfl) ?_
  refine lv_iconst (v := Int32.ofInt (-1)) hx hb dX4_init_10 rfl ?_
  refine va_put (D := D) (ci := 4) (v := .int (Int32.ofInt (-1))) (ty := .int) (C := RX4) (T := TX4) (N := 12) hx hb hts am_ws_4 tyX4 tyX4_ok nmX4 hown hK hP hD hS 0 rfl rfl 1 (by decide) (hts _ (tb_1 (n := 192) rfl rfl)) (fun _ h9 => h9) rfl (tyX4_ok 1 (by decide)) rfl rfl (Nat.le_of_ble_eq_true rfl) dX4_init_11 (fun H locs hP hD hS => ?_)
  have hP : va_P D am_cl ((h0, .inr (4, [.int (Int32.ofInt 0), .int (Int32.ofInt (-1)), .null, .null, .int (Int32.ofInt 0), .int (Int32.ofInt 0), .int (Int32.ofInt 0), .int (Int32.ofInt 0), .long (Int64.ofInt 0), .int (Int32.ofInt 0), .null, .int (Int32.ofInt 0)])) :: X0) H := hP
  have hD : va_D (fr0 h0 s.heap.size) ((h0, .inr (4, [.int (Int32.ofInt 0), .int (Int32.ofInt (-1)), .null, .null, .int (Int32.ofInt 0), .int (Int32.ofInt 0), .int (Int32.ofInt 0), .int (Int32.ofInt 0), .long (Int64.ofInt 0), .int (Int32.ofInt 0), .null, .int (Int32.ofInt 0)])) :: X0) := hD
  refine lv_aload_n hx hb dX4_init_14 rfl (lv_at hl 0 rfl) ?_
  refine lv_bipush (v := Int32.ofInt 21) hx hb dX4_init_15 (by decide) ?_
  refine nw_arr (atype := .long) (ty := .long) (t0 := 3) (N' := 21) (a0 := (21, .inr (.inl (fun _ => Int64.ofInt 0)))) hx hb (hts (.arrayClass .long) (tb_1 (n := 63) rfl rfl)) rfl (fun _ h => h) hK rfl hP hD hS hA (za_long 21) (by decide) rfl (Nat.le_of_ble_eq_true rfl) (Nat.le_of_ble_eq_true rfl) (Nat.le_of_ble_eq_true rfl) dX4_init_17 (fun q17 H hP hD hS => ?_)
  have hP : va_P D am_cl ((h0, .inr (4, [.int (Int32.ofInt 0), .int (Int32.ofInt (-1)), .null, .null, .int (Int32.ofInt 0), .int (Int32.ofInt 0), .int (Int32.ofInt 0), .int (Int32.ofInt 0), .long (Int64.ofInt 0), .int (Int32.ofInt 0), .null, .int (Int32.ofInt 0)])) :: (X0 ++ [(q17, .inl (cT 3, 21, .inr (.inl (fun _ => Int64.ofInt 0))))])) H := hP
  have hD : va_D (fr0 h0 s.heap.size) ((h0, .inr (4, [.int (Int32.ofInt 0), .int (Int32.ofInt (-1)), .null, .null, .int (Int32.ofInt 0), .int (Int32.ofInt 0), .int (Int32.ofInt 0), .int (Int32.ofInt 0), .long (Int64.ofInt 0), .int (Int32.ofInt 0), .null, .int (Int32.ofInt 0)])) :: (X0 ++ [(q17, .inl (cT 3, 21, .inr (.inl (fun _ => Int64.ofInt 0))))])) := hD
  generalize eX1 : X0 ++ [(q17, .inl (cT 3, 21, .inr (.inl (fun _ => Int64.ofInt 0))))] = X1 at hP hD
  refine va_putF (D := D) (ci := 4) (v := .ref q17) (ty := .array .long) (C := RX4) (T := TX4) (N := 12) hx hb hts am_ws_4 tyX4 tyX4_ok nmX4 hown hK hP hD hS 0 rfl rfl 2 (by decide) (hts _ (tb_1 (n := 194) rfl rfl)) (fun _ h9 => h9) rfl hin rfl (tyX4_ok 2 (by decide)) rfl rfl (Nat.le_of_ble_eq_true rfl) dX4_init_19 (fun H locs hP hD hS => ?_)
  have hP : va_P D am_cl ((h0, .inr (4, [.int (Int32.ofInt 0), .int (Int32.ofInt (-1)), .ref q17, .null, .int (Int32.ofInt 0), .int (Int32.ofInt 0), .int (Int32.ofInt 0), .int (Int32.ofInt 0), .long (Int64.ofInt 0), .int (Int32.ofInt 0), .null, .int (Int32.ofInt 0)])) :: X1) H := hP
  have hD : va_D (fr0 h0 s.heap.size) ((h0, .inr (4, [.int (Int32.ofInt 0), .int (Int32.ofInt (-1)), .ref q17, .null, .int (Int32.ofInt 0), .int (Int32.ofInt 0), .int (Int32.ofInt 0), .int (Int32.ofInt 0), .long (Int64.ofInt 0), .int (Int32.ofInt 0), .null, .int (Int32.ofInt 0)])) :: X1) := hD
  refine lv_aload_n hx hb dX4_init_22 rfl (lv_at hl 0 rfl) ?_
  refine lv_iconst (v := Int32.ofInt 0) hx hb dX4_init_23 rfl ?_
  refine va_put (D := D) (ci := 4) (v := .int (Int32.ofInt 0)) (ty := .int) (C := RX4) (T := TX4) (N := 12) hx hb hts am_ws_4 tyX4 tyX4_ok nmX4 hown hK hP hD hS 0 rfl rfl 4 (by decide) (hts _ (tb_1 (n := 196) rfl rfl)) (fun _ h9 => h9) rfl (tyX4_ok 4 (by decide)) rfl rfl (Nat.le_of_ble_eq_true rfl) dX4_init_24 (fun H locs hP hD hS => ?_)
  have hP : va_P D am_cl ((h0, .inr (4, [.int (Int32.ofInt 0), .int (Int32.ofInt (-1)), .ref q17, .null, .int (Int32.ofInt 0), .int (Int32.ofInt 0), .int (Int32.ofInt 0), .int (Int32.ofInt 0), .long (Int64.ofInt 0), .int (Int32.ofInt 0), .null, .int (Int32.ofInt 0)])) :: X1) H := hP
  have hD : va_D (fr0 h0 s.heap.size) ((h0, .inr (4, [.int (Int32.ofInt 0), .int (Int32.ofInt (-1)), .ref q17, .null, .int (Int32.ofInt 0), .int (Int32.ofInt 0), .int (Int32.ofInt 0), .int (Int32.ofInt 0), .long (Int64.ofInt 0), .int (Int32.ofInt 0), .null, .int (Int32.ofInt 0)])) :: X1) := hD
  refine lv_aload_n hx hb dX4_init_27 rfl (lv_at hl 0 rfl) ?_
  refine lv_iconst (v := Int32.ofInt 0) hx hb dX4_init_28 rfl ?_
  refine va_put (D := D) (ci := 4) (v := .int (Int32.ofInt 0)) (ty := .int) (C := RX4) (T := TX4) (N := 12) hx hb hts am_ws_4 tyX4 tyX4_ok nmX4 hown hK hP hD hS 0 rfl rfl 5 (by decide) (hts _ (tb_1 (n := 197) rfl rfl)) (fun _ h9 => h9) rfl (tyX4_ok 5 (by decide)) rfl rfl (Nat.le_of_ble_eq_true rfl) dX4_init_29 (fun H locs hP hD hS => ?_)
  have hP : va_P D am_cl ((h0, .inr (4, [.int (Int32.ofInt 0), .int (Int32.ofInt (-1)), .ref q17, .null, .int (Int32.ofInt 0), .int (Int32.ofInt 0), .int (Int32.ofInt 0), .int (Int32.ofInt 0), .long (Int64.ofInt 0), .int (Int32.ofInt 0), .null, .int (Int32.ofInt 0)])) :: X1) H := hP
  have hD : va_D (fr0 h0 s.heap.size) ((h0, .inr (4, [.int (Int32.ofInt 0), .int (Int32.ofInt (-1)), .ref q17, .null, .int (Int32.ofInt 0), .int (Int32.ofInt 0), .int (Int32.ofInt 0), .int (Int32.ofInt 0), .long (Int64.ofInt 0), .int (Int32.ofInt 0), .null, .int (Int32.ofInt 0)])) :: X1) := hD
  refine lv_aload_n hx hb dX4_init_32 rfl (lv_at hl 0 rfl) ?_
  refine lv_bipush (v := Int32.ofInt 102) hx hb dX4_init_33 (by decide) ?_
  refine va_put (D := D) (ci := 4) (v := .int (Int32.ofInt 102)) (ty := .int) (C := RX4) (T := TX4) (N := 12) hx hb hts am_ws_4 tyX4 tyX4_ok nmX4 hown hK hP hD hS 0 rfl rfl 6 (by decide) (hts _ (tb_1 (n := 198) rfl rfl)) (fun _ h9 => h9) rfl (tyX4_ok 6 (by decide)) rfl rfl (Nat.le_of_ble_eq_true rfl) dX4_init_35 (fun H locs hP hD hS => ?_)
  have hP : va_P D am_cl ((h0, .inr (4, [.int (Int32.ofInt 0), .int (Int32.ofInt (-1)), .ref q17, .null, .int (Int32.ofInt 0), .int (Int32.ofInt 0), .int (Int32.ofInt 102), .int (Int32.ofInt 0), .long (Int64.ofInt 0), .int (Int32.ofInt 0), .null, .int (Int32.ofInt 0)])) :: X1) H := hP
  have hD : va_D (fr0 h0 s.heap.size) ((h0, .inr (4, [.int (Int32.ofInt 0), .int (Int32.ofInt (-1)), .ref q17, .null, .int (Int32.ofInt 0), .int (Int32.ofInt 0), .int (Int32.ofInt 102), .int (Int32.ofInt 0), .long (Int64.ofInt 0), .int (Int32.ofInt 0), .null, .int (Int32.ofInt 0)])) :: X1) := hD
  refine lv_aload_n hx hb dX4_init_38 rfl (lv_at hl 0 rfl) ?_
  refine lv_iconst (v := Int32.ofInt 0) hx hb dX4_init_39 rfl ?_
  refine va_put (D := D) (ci := 4) (v := .int (Int32.ofInt 0)) (ty := .int) (C := RX4) (T := TX4) (N := 12) hx hb hts am_ws_4 tyX4 tyX4_ok nmX4 hown hK hP hD hS 0 rfl rfl 7 (by decide) (hts _ (tb_1 (n := 199) rfl rfl)) (fun _ h9 => h9) rfl (tyX4_ok 7 (by decide)) rfl rfl (Nat.le_of_ble_eq_true rfl) dX4_init_40 (fun H locs hP hD hS => ?_)
  have hP : va_P D am_cl ((h0, .inr (4, [.int (Int32.ofInt 0), .int (Int32.ofInt (-1)), .ref q17, .null, .int (Int32.ofInt 0), .int (Int32.ofInt 0), .int (Int32.ofInt 102), .int (Int32.ofInt 0), .long (Int64.ofInt 0), .int (Int32.ofInt 0), .null, .int (Int32.ofInt 0)])) :: X1) H := hP
  have hD : va_D (fr0 h0 s.heap.size) ((h0, .inr (4, [.int (Int32.ofInt 0), .int (Int32.ofInt (-1)), .ref q17, .null, .int (Int32.ofInt 0), .int (Int32.ofInt 0), .int (Int32.ofInt 102), .int (Int32.ofInt 0), .long (Int64.ofInt 0), .int (Int32.ofInt 0), .null, .int (Int32.ofInt 0)])) :: X1) := hD
  refine lv_aload_n hx hb dX4_init_43 rfl (lv_at hl 0 rfl) ?_
  refine lv_lconst (v := Int64.ofInt 0) hx hb dX4_init_44 (by decide) ?_
  refine va_put (D := D) (ci := 4) (v := .long (Int64.ofInt 0)) (ty := .long) (C := RX4) (T := TX4) (N := 12) hx hb hts am_ws_4 tyX4 tyX4_ok nmX4 hown hK hP hD hS 0 rfl rfl 8 (by decide) (hts _ (tb_1 (n := 200) rfl rfl)) (fun _ h9 => h9) rfl (tyX4_ok 8 (by decide)) rfl rfl (Nat.le_of_ble_eq_true rfl) dX4_init_45 (fun H locs hP hD hS => ?_)
  have hP : va_P D am_cl ((h0, .inr (4, [.int (Int32.ofInt 0), .int (Int32.ofInt (-1)), .ref q17, .null, .int (Int32.ofInt 0), .int (Int32.ofInt 0), .int (Int32.ofInt 102), .int (Int32.ofInt 0), .long (Int64.ofInt 0), .int (Int32.ofInt 0), .null, .int (Int32.ofInt 0)])) :: X1) H := hP
  have hD : va_D (fr0 h0 s.heap.size) ((h0, .inr (4, [.int (Int32.ofInt 0), .int (Int32.ofInt (-1)), .ref q17, .null, .int (Int32.ofInt 0), .int (Int32.ofInt 0), .int (Int32.ofInt 102), .int (Int32.ofInt 0), .long (Int64.ofInt 0), .int (Int32.ofInt 0), .null, .int (Int32.ofInt 0)])) :: X1) := hD
  refine lv_aload_n hx hb dX4_init_48 rfl (lv_at hl 0 rfl) ?_
  refine lv_iconst (v := Int32.ofInt 0) hx hb dX4_init_49 rfl ?_
  refine va_put (D := D) (ci := 4) (v := .int (Int32.ofInt 0)) (ty := .int) (C := RX4) (T := TX4) (N := 12) hx hb hts am_ws_4 tyX4 tyX4_ok nmX4 hown hK hP hD hS 0 rfl rfl 9 (by decide) (hts _ (tb_1 (n := 201) rfl rfl)) (fun _ h9 => h9) rfl (tyX4_ok 9 (by decide)) rfl rfl (Nat.le_of_ble_eq_true rfl) dX4_init_50 (fun H locs hP hD hS => ?_)
  have hP : va_P D am_cl ((h0, .inr (4, [.int (Int32.ofInt 0), .int (Int32.ofInt (-1)), .ref q17, .null, .int (Int32.ofInt 0), .int (Int32.ofInt 0), .int (Int32.ofInt 102), .int (Int32.ofInt 0), .long (Int64.ofInt 0), .int (Int32.ofInt 0), .null, .int (Int32.ofInt 0)])) :: X1) H := hP
  have hD : va_D (fr0 h0 s.heap.size) ((h0, .inr (4, [.int (Int32.ofInt 0), .int (Int32.ofInt (-1)), .ref q17, .null, .int (Int32.ofInt 0), .int (Int32.ofInt 0), .int (Int32.ofInt 102), .int (Int32.ofInt 0), .long (Int64.ofInt 0), .int (Int32.ofInt 0), .null, .int (Int32.ofInt 0)])) :: X1) := hD
  refine lv_aload_n hx hb dX4_init_53 rfl (lv_at hl 0 rfl) ?_
  refine lv_iconst (v := Int32.ofInt 0) hx hb dX4_init_54 rfl ?_
  refine va_put (D := D) (ci := 4) (v := .int (Int32.ofInt 0)) (ty := .int) (C := RX4) (T := TX4) (N := 12) hx hb hts am_ws_4 tyX4 tyX4_ok nmX4 hown hK hP hD hS 0 rfl rfl 11 (by decide) (hts _ (tb_1 (n := 203) rfl rfl)) (fun _ h9 => h9) rfl (tyX4_ok 11 (by decide)) rfl rfl (Nat.le_of_ble_eq_true rfl) dX4_init_55 (fun H locs hP hD hS => ?_)
  have hP : va_P D am_cl ((h0, .inr (4, [.int (Int32.ofInt 0), .int (Int32.ofInt (-1)), .ref q17, .null, .int (Int32.ofInt 0), .int (Int32.ofInt 0), .int (Int32.ofInt 102), .int (Int32.ofInt 0), .long (Int64.ofInt 0), .int (Int32.ofInt 0), .null, .int (Int32.ofInt 0)])) :: X1) H := hP
  have hD : va_D (fr0 h0 s.heap.size) ((h0, .inr (4, [.int (Int32.ofInt 0), .int (Int32.ofInt (-1)), .ref q17, .null, .int (Int32.ofInt 0), .int (Int32.ofInt 0), .int (Int32.ofInt 102), .int (Int32.ofInt 0), .long (Int64.ofInt 0), .int (Int32.ofInt 0), .null, .int (Int32.ofInt 0)])) :: X1) := hD
  refine lv_aload_n hx hb dX4_init_58 rfl (lv_at hl 0 rfl) ?_
  refine lv_aload_n hx hb dX4_init_59 rfl (lv_at hl 1 rfl) ?_
  refine va_putF (D := D) (ci := 4) (v := .ref r1) (ty := .array .byte) (C := RX4) (T := TX4) (N := 12) hx hb hts am_ws_4 tyX4 tyX4_ok nmX4 hown hK hP hD hS 0 rfl rfl 3 (by decide) (hts _ (tb_1 (n := 195) rfl rfl)) (fun _ h9 => h9) rfl hin rfl (tyX4_ok 3 (by decide)) rfl rfl (Nat.le_of_ble_eq_true rfl) dX4_init_60 (fun H locs hP hD hS => ?_)
  have hP : va_P D am_cl ((h0, .inr (4, [.int (Int32.ofInt 0), .int (Int32.ofInt (-1)), .ref q17, .ref r1, .int (Int32.ofInt 0), .int (Int32.ofInt 0), .int (Int32.ofInt 102), .int (Int32.ofInt 0), .long (Int64.ofInt 0), .int (Int32.ofInt 0), .null, .int (Int32.ofInt 0)])) :: X1) H := hP
  have hD : va_D (fr0 h0 s.heap.size) ((h0, .inr (4, [.int (Int32.ofInt 0), .int (Int32.ofInt (-1)), .ref q17, .ref r1, .int (Int32.ofInt 0), .int (Int32.ofInt 0), .int (Int32.ofInt 102), .int (Int32.ofInt 0), .long (Int64.ofInt 0), .int (Int32.ofInt 0), .null, .int (Int32.ofInt 0)])) :: X1) := hD
  refine lv_aload_n hx hb dX4_init_63 rfl (lv_at hl 0 rfl) ?_
  refine lv_aload_n hx hb dX4_init_64 rfl (lv_at hl 2 rfl) ?_
  refine va_put (D := D) (ci := 4) (v := .ref r2) (ty := .object "FortyLetters$Town") (C := RX4) (T := TX4) (N := 12) hx hb hts am_ws_4 tyX4 tyX4_ok nmX4 hown hK hP hD hS 0 rfl rfl 10 (by decide) (hts _ (tb_1 (n := 202) rfl rfl)) (fun _ h9 => h9) rfl (tyX4_ok 10 (by decide)) rfl rfl (Nat.le_of_ble_eq_true rfl) dX4_init_65 (fun H locs hP hD hS => ?_)
  have hP : va_P D am_cl ((h0, .inr (4, [.int (Int32.ofInt 0), .int (Int32.ofInt (-1)), .ref q17, .ref r1, .int (Int32.ofInt 0), .int (Int32.ofInt 0), .int (Int32.ofInt 102), .int (Int32.ofInt 0), .long (Int64.ofInt 0), .int (Int32.ofInt 0), .ref r2, .int (Int32.ofInt 0)])) :: X1) H := hP
  have hD : va_D (fr0 h0 s.heap.size) ((h0, .inr (4, [.int (Int32.ofInt 0), .int (Int32.ofInt (-1)), .ref q17, .ref r1, .int (Int32.ofInt 0), .int (Int32.ofInt 0), .int (Int32.ofInt 102), .int (Int32.ofInt 0), .long (Int64.ofInt 0), .int (Int32.ofInt 0), .ref r2, .int (Int32.ofInt 0)])) :: X1) := hD
  subst eX1 eX0
  refine lv_iconst (v := nI 0) hx hb dX4_init_68 (by decide) ?_
  refine lv_istore_n (lv' := [(3, .int (nI 0)), (0, .ref h0), (1, .ref r1), (2, .ref r2)]) hx hb dX4_init_69 rfl hl (by decide) rfl (fun ls hl => ?_)
  refine lv_iconst (v := nI 0) hx hb dX4_init_70 (by decide) ?_
  refine lv_istore (lv' := [(4, .int (nI 0)), (3, .int (nI 0)), (0, .ref h0), (1, .ref r1), (2, .ref r2)]) hx hb dX4_init_71 hl (by decide) rfl (fun ls hl => ?_)
  refine W.widen (k := 1) (n := 21) (Nat.le_of_ble_eq_true rfl) (Nat.le_of_ble_eq_true rfl) ?_
  exact rd_loop hx hb hr hlocks hml hown hts hK hZ wb_ 0 0 (fun _ => Int64.ofInt 0) H locs ls rfl (by decide) (by decide +kernel) rfl hP hD hS hl
