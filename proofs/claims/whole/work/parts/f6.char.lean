set_option maxHeartbeats 4000000 in
set_option maxRecDepth 100000 in
theorem jc_chkn (l : Launch) (x y : Int32) (h0 : ¬ x < 0) (h1 : x < y) : Met l yJ3_checkIndex_8e157 (Cond.code yJ3_checkIndex_8e157 cJ3_checkIndex_8e157 3 (some .int) :: am_WL) (js_rm 0) (va_Pc [.int x, .int y, .null] (fun _ => True)) (js_Q (some (.int x))) 0 0 (fun _ => False) := by
  refine Met.ofW (cc := cJ3_checkIndex_8e157) (maxL := 3) (ret := some .int) (by decide) rfl ?_
  intro p e s m args below meth c s₁ B hml hv
  obtain ⟨rfl, hv⟩ := hv
  have hx := B.exec
  have hb := B.bytes
  have hr := B.returns
  have hts0 := atoms_spec (ws := Cond.code yJ3_checkIndex_8e157 cJ3_checkIndex_8e157 3 (some .int) :: am_WL) B.pre
  have hts : ∀ w ∈ am_WL, w.before ([.int x, .int y, .null].toArray) s = true := fun w hw => hts0 w (List.mem_cons_of_mem _ hw)
  have hown : s.vm.findClass RJ3 = some m.cls := findClass_of_methodNamed B.named
  have hlocks := B.notSynchronized
  have hS : va_S (fun _ => False) s.heap s.heap [] := va_S.rf
  have hl := lv_entry ([.int x, .int y, .null]) (n := 3) (Nat.le_of_ble_eq_true rfl)
  rw [lg_entry_eq]
  generalize (lg_sl ([.int x, .int y, .null]) ++ List.replicate (3 - (lg_sl ([.int x, .int y, .null])).length) Slot.unset).toArray = ls at hl ⊢
  have hl : lv_has ls 3 [(0, .int x), (1, .int y), (2, .null)] := hl
  refine lv_iload_n hx hb dJ3_checkIndex_8e157_0 rfl (lv_at hl 0 rfl) ?_
  refine lv_if_lt (tgt := 9) hx hb dJ3_checkIndex_8e157_1 (by decide) (fun h => absurd h h0) (fun _ => ?_)
  refine lv_iload_n hx hb dJ3_checkIndex_8e157_4 rfl (lv_at hl 0 rfl) ?_
  refine lv_iload_n hx hb dJ3_checkIndex_8e157_5 rfl (lv_at hl 1 rfl) ?_
  refine lv_icmp_lt (tgt := 16) hx hb dJ3_checkIndex_8e157_6 (by decide) (fun _ => ?_) (fun h => absurd h1 h)
  refine lv_iload_n hx hb dJ3_checkIndex_8e157_16 rfl (lv_at hl 0 rfl) ?_
  exact W.iret hx hb hr (fun t ht hW => ⟨rfl, hS.F ht⟩) hS.2.2 dJ3_checkIndex_8e157_17 hlocks
set_option maxHeartbeats 4000000 in
set_option maxRecDepth 100000 in
theorem jc_chkr (l : Launch) (x y : Int32) (t : Nat) (h0 : ¬ x < 0) (h1 : x < y) : Met l yJ3_checkIndex_8e157 (Cond.code yJ3_checkIndex_8e157 cJ3_checkIndex_8e157 3 (some .int) :: am_WL) (js_rm 0) (va_Pc [.int x, .int y, .ref t] (fun _ => True)) (js_Q (some (.int x))) 0 0 (fun _ => False) := by
  refine Met.ofW (cc := cJ3_checkIndex_8e157) (maxL := 3) (ret := some .int) (by decide) rfl ?_
  intro p e s m args below meth c s₁ B hml hv
  obtain ⟨rfl, hv⟩ := hv
  have hx := B.exec
  have hb := B.bytes
  have hr := B.returns
  have hts0 := atoms_spec (ws := Cond.code yJ3_checkIndex_8e157 cJ3_checkIndex_8e157 3 (some .int) :: am_WL) B.pre
  have hts : ∀ w ∈ am_WL, w.before ([.int x, .int y, .ref t].toArray) s = true := fun w hw => hts0 w (List.mem_cons_of_mem _ hw)
  have hown : s.vm.findClass RJ3 = some m.cls := findClass_of_methodNamed B.named
  have hlocks := B.notSynchronized
  have hS : va_S (fun _ => False) s.heap s.heap [] := va_S.rf
  have hl := lv_entry ([.int x, .int y, .ref t]) (n := 3) (Nat.le_of_ble_eq_true rfl)
  rw [lg_entry_eq]
  generalize (lg_sl ([.int x, .int y, .ref t]) ++ List.replicate (3 - (lg_sl ([.int x, .int y, .ref t])).length) Slot.unset).toArray = ls at hl ⊢
  have hl : lv_has ls 3 [(0, .int x), (1, .int y), (2, .ref t)] := hl
  refine lv_iload_n hx hb dJ3_checkIndex_8e157_0 rfl (lv_at hl 0 rfl) ?_
  refine lv_if_lt (tgt := 9) hx hb dJ3_checkIndex_8e157_1 (by decide) (fun h => absurd h h0) (fun _ => ?_)
  refine lv_iload_n hx hb dJ3_checkIndex_8e157_4 rfl (lv_at hl 0 rfl) ?_
  refine lv_iload_n hx hb dJ3_checkIndex_8e157_5 rfl (lv_at hl 1 rfl) ?_
  refine lv_icmp_lt (tgt := 16) hx hb dJ3_checkIndex_8e157_6 (by decide) (fun _ => ?_) (fun h => absurd h1 h)
  refine lv_iload_n hx hb dJ3_checkIndex_8e157_16 rfl (lv_at hl 0 rfl) ?_
  exact W.iret hx hb hr (fun t ht hW => ⟨rfl, hS.F ht⟩) hS.2.2 dJ3_checkIndex_8e157_17 hlocks
set_option maxHeartbeats 4000000 in
set_option maxRecDepth 100000 in
theorem jc_chk (l : Launch) (x y : Int32) (h0 : ¬ x < 0) (h1 : x < y) : Met l yJ0_checkIndex_df160 (Cond.code yJ0_checkIndex_df160 cJ0_checkIndex_df160 2 (none) :: am_WL) (js_rm 1) (va_Pc [.int x, .int y] (js_Pq)) (js_Q (none)) 0 0 (fun _ => False) := by
  refine Met.ofW (cc := cJ0_checkIndex_df160) (maxL := 2) (ret := none) (by decide) rfl ?_
  intro p e s m args below meth c s₁ B hml hv
  obtain ⟨rfl, hv⟩ := hv
  have hx := B.exec
  have hb := B.bytes
  have hr := B.returns
  have hts0 := atoms_spec (ws := Cond.code yJ0_checkIndex_df160 cJ0_checkIndex_df160 2 (none) :: am_WL) B.pre
  have hts : ∀ w ∈ am_WL, w.before ([.int x, .int y].toArray) s = true := fun w hw => hts0 w (List.mem_cons_of_mem _ hw)
  have hown : s.vm.findClass RJ0 = some m.cls := findClass_of_methodNamed B.named
  have hlocks := B.notSynchronized
  have hS : va_S (fun _ => False) s.heap s.heap [] := va_S.rf
  have hl := lv_entry ([.int x, .int y]) (n := 2) (Nat.le_of_ble_eq_true rfl)
  rw [lg_entry_eq]
  generalize (lg_sl ([.int x, .int y]) ++ List.replicate (2 - (lg_sl ([.int x, .int y])).length) Slot.unset).toArray = ls at hl ⊢
  have hl : lv_has ls 2 [(0, .int x), (1, .int y)] := hl
  have hq := hv
  refine lv_iload_n hx hb dJ0_checkIndex_df160_0 rfl (lv_at hl 0 rfl) ?_
  refine lv_iload_n hx hb dJ0_checkIndex_df160_1 rfl (lv_at hl 1 rfl) ?_
  rcases hq with hZ | ⟨t, hZ⟩
  · refine va_gets hx hb hZ hS hown (hts _ (tb_1 (n := 163) rfl rfl)) (fun _ h => h) dJ0_checkIndex_df160_2 ?_
    refine js_callX (va_runS (As := [.int x, .int y, .null]) (rest := []) ⟨hx, hb, hml, hown, hts⟩ (jc_chkn l x y h0 h1) ⟨(callB_of 3 hts (js_goodIn (tb_1 (n := 167) rfl rfl)) rfl rfl rfl (hts _ (tb_1 (n := 7) rfl rfl)) (hts _ (tb_1 (n := 165) rfl rfl)) ⟨by decide +kernel, by decide +kernel, by decide +kernel⟩ ⟨Nat.le_of_ble_eq_true rfl, Nat.le_of_ble_eq_true rfl⟩), hts _ (tb_1 (n := 166) rfl rfl)⟩ ⟨js_b0 _, fun U hU hW => ⟨rfl, trivial⟩⟩ rfl rfl hl.1 rfl (lv_room (Nat.le_of_ble_eq_true rfl)) dJ0_checkIndex_df160_5 ⟨Nat.zero_le _, Nat.zero_le _⟩) hS (fun H locs hsz hk hS => ?_)
    refine lv_pop hx hb dJ0_checkIndex_df160_8 rfl ?_
    exact W.vret hx hb hr (fun t ht hW => ⟨rfl, hS.F ht⟩) hS.2.2 dJ0_checkIndex_df160_9 hlocks
  · refine va_gets hx hb hZ hS hown (hts _ (tb_1 (n := 163) rfl rfl)) (fun _ h => h) dJ0_checkIndex_df160_2 ?_
    refine js_callX (va_runS (As := [.int x, .int y, .ref t]) (rest := []) ⟨hx, hb, hml, hown, hts⟩ (jc_chkr l x y t h0 h1) ⟨(callB_of 3 hts (js_goodIn (tb_1 (n := 167) rfl rfl)) rfl rfl rfl (hts _ (tb_1 (n := 7) rfl rfl)) (hts _ (tb_1 (n := 165) rfl rfl)) ⟨by decide +kernel, by decide +kernel, by decide +kernel⟩ ⟨Nat.le_of_ble_eq_true rfl, Nat.le_of_ble_eq_true rfl⟩), hts _ (tb_1 (n := 166) rfl rfl)⟩ ⟨js_b0 _, fun U hU hW => ⟨rfl, trivial⟩⟩ rfl rfl hl.1 rfl (lv_room (Nat.le_of_ble_eq_true rfl)) dJ0_checkIndex_df160_5 ⟨Nat.zero_le _, Nat.zero_le _⟩) hS (fun H locs hsz hk hS => ?_)
    refine lv_pop hx hb dJ0_checkIndex_df160_8 rfl ?_
    exact W.vret hx hb hr (fun t ht hW => ⟨rfl, hS.F ht⟩) hS.2.2 dJ0_checkIndex_df160_9 hlocks
def cc8_ (b : Int32) : Int32 := ((b &&& 255).toUInt32 % 65536).toInt32
theorem cc8_nar (b : Int32) : narrow .char (.int (cc8_ b)) = .int (cc8_ b) := by
  unfold cc8_
  rw [sc_c2]
  exact sc_nar b
set_option maxHeartbeats 4000000 in
set_option maxRecDepth 100000 in
theorem jc_charAt1 (l : Launch) {bs : List Int32} {b n : Nat} (hn : n < 2 ^ 31) (k : Nat) (hk : k < n) : Met l yJ1_charAt_3b067 (Cond.code yJ1_charAt_3b067 cJ1_charAt_3b067 2 (some .char) :: am_WL) (js_rm 2) (va_Pc [.ref b, .int (nI k)] (fun U => js_T b n (fun j => .int (bs.getD j 0)) U ∧ js_Pq U)) (js_Q (some (.int (cc8_ (bs.getD k 0))))) 0 0 (fun _ => False) := by
  refine Met.ofW (cc := cJ1_charAt_3b067) (maxL := 2) (ret := some .char) (by decide) rfl ?_
  intro p e s m args below meth c s₁ B hml hv
  obtain ⟨rfl, hv⟩ := hv
  have hx := B.exec
  have hb := B.bytes
  have hr := B.returns
  have hts0 := atoms_spec (ws := Cond.code yJ1_charAt_3b067 cJ1_charAt_3b067 2 (some .char) :: am_WL) B.pre
  have hts : ∀ w ∈ am_WL, w.before ([.ref b, .int (nI k)].toArray) s = true := fun w hw => hts0 w (List.mem_cons_of_mem _ hw)
  have hown : s.vm.findClass RJ1 = some m.cls := findClass_of_methodNamed B.named
  have hlocks := B.notSynchronized
  have hS : va_S (fun _ => False) s.heap s.heap [] := va_S.rf
  have hl := lv_entry ([.ref b, .int (nI k)]) (n := 2) (Nat.le_of_ble_eq_true rfl)
  rw [lg_entry_eq]
  generalize (lg_sl ([.ref b, .int (nI k)]) ++ List.replicate (2 - (lg_sl ([.ref b, .int (nI k)])).length) Slot.unset).toArray = ls at hl ⊢
  have hl : lv_has ls 2 [(0, .ref b), (1, .int (nI k))] := hl
  obtain ⟨hT, hq⟩ := hv
  refine lv_iload_n hx hb dJ1_charAt_3b067_0 rfl (lv_at hl 1 rfl) ?_
  refine lv_aload_n hx hb dJ1_charAt_3b067_1 rfl (lv_at hl 0 rfl) ?_
  refine va_tlen hx hb hT hS (v := nI n) rfl dJ1_charAt_3b067_2 ?_
  refine js_callX (va_runS (As := [.int (nI k), .int (nI n)]) (rest := []) ⟨hx, hb, hml, hown, hts⟩ (jc_chk l (nI k) (nI n) (nI_pos (by omega)) (nI_lt hk hn)) ⟨(callB_of 2 hts (js_goodIn (tb_1 (n := 162) rfl rfl)) rfl rfl rfl (hts _ (tb_1 (n := 5) rfl rfl)) (hts _ (tb_1 (n := 160) rfl rfl)) ⟨by decide +kernel, by decide +kernel, by decide +kernel⟩ ⟨Nat.le_of_ble_eq_true rfl, Nat.le_of_ble_eq_true rfl⟩), hts _ (tb_1 (n := 161) rfl rfl)⟩ ⟨js_bq _, fun U hU hW => ⟨rfl, js_goq hq hS hU hW⟩⟩ rfl rfl hl.1 rfl (lv_room (Nat.le_of_ble_eq_true rfl)) dJ1_charAt_3b067_3 ⟨Nat.zero_le _, Nat.zero_le _⟩) hS (fun H locs hsz hkk hS => ?_)
  refine lv_aload_n hx hb dJ1_charAt_3b067_6 rfl (lv_at hl 0 rfl) ?_
  refine lv_iload_n hx hb dJ1_charAt_3b067_7 rfl (lv_at hl 1 rfl) ?_
  refine va_tb hx hb hT hS (vp_in_nI hk hn) (v := .int (bs.getD k 0)) (by rw [nI_clamp (by omega)]) dJ1_charAt_3b067_8 ?_
  refine lv_sipush (v := 255) hx hb dJ1_charAt_3b067_9 (by decide) ?_
  refine lv_iand hx hb dJ1_charAt_3b067_12 ?_
  refine lv_i2c (v := cc8_ (bs.getD k 0)) hx hb dJ1_charAt_3b067_13 rfl ?_
  exact W.zret hx hb hr (cc8_nar _) (fun t ht hW => ⟨rfl, hS.F ht⟩) hS.2.2 dJ1_charAt_3b067_14 hlocks
set_option maxHeartbeats 4000000 in
set_option maxRecDepth 100000 in
theorem jc_charAt (l : Launch) {N : Nat} {len : List Nat} {byt : List (List Int32)} {adK adV : Nat → Nat} {i : Nat} (hi : i < N) (hL : len.getD i 0 < 2 ^ 31) (k : Nat) (hk : k < len.getD i 0) : Met l yJ0_charAt_5068e (Cond.code yJ0_charAt_5068e cJ0_charAt_5068e 2 (some .char) :: am_WL) (js_rm 3) (va_Pc [.ref (adK i), .int (nI k)] (fun U => js_P N len byt adK adV U ∧ js_Pq U)) (js_Q (some (.int (cc8_ ((byt.getD i []).getD k 0))))) 0 0 (fun _ => False) := by
  refine Met.ofW (cc := cJ0_charAt_5068e) (maxL := 2) (ret := some .char) (by decide) rfl ?_
  intro p e s m args below meth c s₁ B hml hv
  obtain ⟨rfl, hv⟩ := hv
  have hx := B.exec
  have hb := B.bytes
  have hr := B.returns
  have hts0 := atoms_spec (ws := Cond.code yJ0_charAt_5068e cJ0_charAt_5068e 2 (some .char) :: am_WL) B.pre
  have hts : ∀ w ∈ am_WL, w.before ([.ref (adK i), .int (nI k)].toArray) s = true := fun w hw => hts0 w (List.mem_cons_of_mem _ hw)
  have hown : s.vm.findClass RJ0 = some m.cls := findClass_of_methodNamed B.named
  have hlocks := B.notSynchronized
  have hS : va_S (fun _ => False) s.heap s.heap [] := va_S.rf
  have hl := lv_entry ([.ref (adK i), .int (nI k)]) (n := 2) (Nat.le_of_ble_eq_true rfl)
  rw [lg_entry_eq]
  generalize (lg_sl ([.ref (adK i), .int (nI k)]) ++ List.replicate (2 - (lg_sl ([.ref (adK i), .int (nI k)])).length) Slot.unset).toArray = ls at hl ⊢
  have hl : lv_has ls 2 [(0, .ref (adK i)), (1, .int (nI k))] := hl
  obtain ⟨⟨hE, hZ⟩, hq⟩ := hv
  refine lv_aload_n hx hb dJ0_charAt_5068e_0 rfl (lv_at hl 0 rfl) ?_
  refine js_callX (va_runV (C := "java/lang/String") (b := adK i) (As := []) (rest := []) ⟨hx, hb, hml, hown, hts⟩ (jc_isLatin1 l hi) ⟨(callB_of 0 hts (js_goodIn (tb_1 (n := 156) rfl rfl)) rfl rfl rfl (hts _ (tb_1 (n := 5) rfl rfl)) (hts _ (tb_1 (n := 153) rfl rfl)) ⟨by decide +kernel, by decide +kernel, by decide +kernel⟩ ⟨Nat.le_of_ble_eq_true rfl, Nat.le_of_ble_eq_true rfl⟩), hts _ (tb_1 (n := 154) rfl rfl), hts _ (tb_1 (n := 155) rfl rfl)⟩ ⟨js_bP _, vk_recv hE hi hS, fun U hU hW => ⟨rfl, js_goP hE hZ hS hU hW⟩⟩ rfl rfl hl.1 rfl (lv_room (Nat.le_of_ble_eq_true rfl)) dJ0_charAt_5068e_1 ⟨Nat.zero_le _, Nat.zero_le _⟩) hS (fun H locs hsz hkk hS => ?_)
  refine lv_if_eq (tgt := 16) hx hb dJ0_charAt_5068e_4 (by decide) (fun h => absurd h (by decide)) (fun _ => ?_)
  refine lv_aload_n hx hb dJ0_charAt_5068e_7 rfl (lv_at hl 0 rfl) ?_
  refine vk_getf hx hb (hE.1 i hi).2.2.1 hS hown (hts _ (tb_8 (n := 123) rfl rfl)) (fun _ h => h) dJ0_charAt_5068e_8 ?_
  refine lv_iload_n hx hb dJ0_charAt_5068e_11 rfl (lv_at hl 1 rfl) ?_
  refine js_callX (va_runS (As := [.ref (adV i), .int (nI k)]) (rest := []) ⟨hx, hb, hml, hown, hts⟩ (jc_charAt1 l (bs := byt.getD i []) (b := adV i) hL k hk) ⟨(callB_of 2 hts (js_goodIn (tb_1 (n := 159) rfl rfl)) rfl rfl rfl (hts _ (tb_1 (n := 6) rfl rfl)) (hts _ (tb_1 (n := 157) rfl rfl)) ⟨by decide +kernel, by decide +kernel, by decide +kernel⟩ ⟨Nat.le_of_ble_eq_true rfl, Nat.le_of_ble_eq_true rfl⟩), hts _ (tb_1 (n := 158) rfl rfl)⟩ ⟨js_bTq _, fun U hU hW => ⟨rfl, ⟨js_goT (hE.1 i hi).2.2.2 hS hU hW, js_goq hq hS hU hW⟩⟩⟩ rfl rfl hl.1 rfl (lv_room (Nat.le_of_ble_eq_true rfl)) dJ0_charAt_5068e_12 ⟨Nat.zero_le _, Nat.zero_le _⟩) hS (fun H locs hsz hkk hS => ?_)
  exact W.zret hx hb hr (cc8_nar _) (fun t ht hW => ⟨rfl, hS.F ht⟩) hS.2.2 dJ0_charAt_5068e_15 hlocks
