section AS
variable {p : Program} {l : Launch} {e : Env} {R : Room} {s : State} {m : MethodId} {args : Array Value} {below : List Frame} {meth : Method} {c : Code} {cells slots : Nat} {Qf : State → Prop} {ad : Nat → Nat} {cT : Nat → ClassId} {D : va_G} {scr : (Nat → Int) × Nat} {own : Nat} {cc : ByteArray} {kc : List am_O}
theorem am_ret_map (ad : Nat → Nat) (r : Option am_V) (S : List am_V) : (am_ret r S).map (am_tr ad) = (r.map (am_tr ad)).toList ++ S.map (am_tr ad) := by
  rcases r with _ | v <;> rfl
/-- behind a call: the world as the callee left it -/
theorem am_callX {pc : Nat} {ls : Array Slot} {st0 rest : List Value} {a : Array Value} {H : Heap} {locs : List Loc} {Q' : Option am_V → am_S → Prop} (hr : va_Run p l e R s m args below meth c H locs cells slots 0 0 (F0 m pc ls st0) rest (am_QC ad cT D scr Q' a) (am_A ad)) (hV : va_S (am_A ad) s.heap H locs)
    (kk : ∀ r σ' H1 locs1, Q' r σ' → va_P D am_cl (am_world ad cT σ') H1 → am_oks scr σ' → (∀ v, r = some v → am_ok v) → va_S (am_A ad) s.heap H1 locs1 → W p l e R s m args below meth c H1 locs1 cells slots Qf (F0 m (pc + 3) ls ((r.map (am_tr ad)).toList ++ rest))) : W p l e R s m args below meth c H locs cells slots Qf (F0 m pc ls st0) := by
  intro T hT X
  obtain ⟨v, st₀, t, T', L, h0, X', hL, e1, e2, ⟨⟨r, σ', hq, hv, hp, ho, hk⟩, hz, hf⟩, st⟩ := hr T hT X
  cases hv
  rw [h0] at hz hf
  obtain ⟨t2, a1, b1⟩ := kk r σ' T'.heap (locs ++ L) hq (by rw [e1]; exact hp) ho hk
    ⟨Nat.le_trans hV.1 (by rw [e1]; exact hz), fun q h1 h2 => by rw [e1, hf q (Nat.lt_of_lt_of_le h1 hV.1) h2]; exact hV.2.1 q h1 h2, fun q hq => by
      rcases List.mem_append.mp hq with h | h
      · exact hV.2.2 q h
      · exact hL q h⟩ T' rfl X'
  exact ⟨t2, st t2 a1, b1⟩
theorem am_split_eq : ∀ (n : Nat) (acc S as rest : List am_V), am_split n acc S = some (as, rest) → ∃ xs, xs.length = n ∧ as = xs.reverse ++ acc ∧ S = xs ++ rest
  | 0, acc, S, as, rest, h => by cases h; exact ⟨[], rfl, rfl, rfl⟩
  | n + 1, acc, [], as, rest, h => by cases h
  | n + 1, acc, v :: S, as, rest, h => by
    obtain ⟨xs, h1, h2, h3⟩ := am_split_eq n (v :: acc) S as rest h
    exact ⟨v :: xs, by rw [List.length_cons, h1], by rw [h2]; simp, by rw [h3]; rfl⟩
/-- the contract that a method's relation gives, calls at most d deep -/
def am_Ct (l : Launch) (d : Nat) (E : am_E) : Prop := ∀ (x : Nat) (as : List am_V) (σ : am_S) (Q' : Option am_V → am_S → Prop), E x as σ Q' → x ≤ 1899 → x < 263 → (∀ v ∈ as, am_ok v) → ∀ (ad : Nat → Nat) (cT : Nat → ClassId) (D : va_G) (scr : (Nat → Int) × Nat), (∀ i j, i < am_NC → j < am_NC → ad i = ad j → i = j) → Met l (am_y x) (Cond.code (am_y x) (am_b x) (am_nL x) (am_rt x) :: am_WL) (am_rm d) (va_Pc (as.map (am_tr ad)) (am_Pic ad cT D scr σ)) (am_QC ad cT D scr Q') 0 0 (am_A ad)
theorem am_goodIn (x : Nat) (h : x < 263) : GoodIn am_WL (Cond.code (am_y x) (am_b x) (am_nL x) (am_rt x) :: am_WL) := by
  intro w hw
  rcases List.mem_cons.mp hw with rfl | h1
  · have h2 := (am_mo h).1
    exact ⟨h2, good_of_word (List.mem_filter.mp h2).2⟩
  · exact ⟨h1, good_of_word (List.mem_filter.mp h1).2⟩
theorem as_call {d : Nat} {E : am_E} (hx : p.tables.exec = Jvm.exec) (hb : c.code = cc) (hown : s.vm.findClass (am_own own) = some m.cls) (hts : ∀ w ∈ am_WL, w.before args s = true) (ho : own < 12) (hc : am_okc own cc kc = true) (hK : va_K D am_cl (am_tys cT) s) (hinj : ∀ i j, i < am_NC → j < am_NC → ad i = ad j → i = j) (hSt : am_St ad scr s s.heap) (hR : d + 9 ≤ R.frames ∧ 40 * d + 440 ≤ R.locals ∧ cells ≤ R.cells ∧ slots ≤ R.slots) (hE : am_Ct l d E) : ar_call E am_na am_rcv kc (am_Sim p l e R s m args below meth c cells slots Qf ad cT D scr) := by
  intro pc L S σ i j x as rest h1 hi h2 h3 h4 h5 hL hs hS hA H locs ls hP hV hl
  obtain ⟨xs, g1, g2, g3⟩ := am_split_eq _ _ _ _ _ h2
  rw [List.append_nil] at g2
  have hcs : am_cats rest ≤ 8 := Nat.le_of_ble_eq_true h3
  have hx1899 : x ≤ 1899 := Nat.le_of_ble_eq_true h4
  have hok : ∀ v ∈ as, am_ok v := fun v hv => hS v (by rw [g3]; exact List.mem_append_left _ (by rw [g2] at hv; exact List.mem_reverse.mp hv))
  have hrest : ∀ v ∈ rest, am_ok v := fun v hv => hS v (by rw [g3]; exact List.mem_append_right _ hv)
  have pics : ∀ U : State, U.heap = H → s.WarmedH U.vm → am_Pic ad cT D scr σ U := fun U hU hW => ⟨by rw [hU]; exact hP, hK.moved hW.alike, hs, by rw [hU]; exact am_St_go hW hV hSt⟩
  have cont : ∀ r σ' H1 locs1, (fun r σ' => am_Sim p l e R s m args below meth c cells slots Qf ad cT D scr (pc + 3) L (am_ret r rest) σ') r σ' → va_P D am_cl (am_world ad cT σ') H1 → am_oks scr σ' → (∀ v, r = some v → am_ok v) → va_S (am_A ad) s.heap H1 locs1 → W p l e R s m args below meth c H1 locs1 cells slots Qf (F0 m (pc + 3) ls ((r.map (am_tr ad)).toList ++ rest.map (am_tr ad))) := by
    intro r σ' H1 locs1 k hP1 hs1 hk hV1
    have := k hL hs1 (by
      rcases r with _ | v
      · exact hrest
      · exact List.forall_mem_cons.mpr ⟨hk v rfl, hrest⟩) hA H1 locs1 ls hP1 hV1 hl
    rw [am_ret_map] at this
    exact this
  have hml : c.maxLocals = L.length := hL.symm
  obtain ⟨hd, ha, hn⟩ := am_okc_lk hc h1
  rcases hi with ⟨rfl, b, bs, rfl, hkb⟩ | rfl
  · have ha1 : (am_has (j, x) (am_ml own) && (Nat.blt x 263 || decide (x = 1900)) && (decide (x = 1900) || !am_st x)) = true := ha
    rw [Bool.and_eq_true, Bool.and_eq_true, Bool.or_eq_true, Bool.or_eq_true, decide_eq_true_eq] at ha1
    obtain ⟨⟨q1, q2⟩, q3⟩ := ha1
    have hxl : x < 263 := by
      rcases q2 with q | q
      · exact Nat.lt_of_succ_le (by simpa [Nat.blt] using q)
      · omega
    have hst : am_st x = false := by
      rcases q3 with q | q
      · omega
      · simpa using q
    obtain ⟨mo1, mo2, -, mo4⟩ := am_mo hxl
    obtain ⟨mo5, mo6⟩ := mo4 hst
    have mr := am_mre hxl
    unfold am_mrest at mr
    simp only [Bool.and_eq_true, Bool.or_eq_true, decide_eq_true_eq, hst, Bool.false_eq_true, false_or, if_false] at mr
    obtain ⟨⟨⟨⟨⟨⟨⟨⟨⟨⟨r1, r2⟩, r3⟩, r4⟩, r5⟩, r6⟩, r7⟩, r8⟩, r9⟩, r10⟩, r11⟩ := mr
    have hna : 0 < am_na x := Nat.lt_of_succ_le (by simpa [Nat.blt] using r8)
    have hnl : am_nL x ≤ 20 := Nat.le_of_ble_eq_true r7
    have hlt := am_kd_lt hkb (by omega)
    have hci10 : am_rcv x < 10 := by have := am_kd_ci b hlt; rw [hkb] at this; exact this rfl
    have hcall := hE x _ σ _ h5 hx1899 hxl hok ad cT D scr hinj
    have hst0 : (S.map (am_tr ad)) = (bs.map (am_tr ad)).reverse ++ .ref (ad b) :: rest.map (am_tr ad) := by
      rw [g3, List.map_append]
      have : xs = (am_R b :: bs).reverse := by rw [g2, List.reverse_reverse]
      rw [this, List.map_reverse]
      simp [am_tr]
    have hlen : (bs.map (am_tr ad)).length = am_na x - 1 := by
      have : (am_R b :: bs).length = am_na x := by rw [g2, List.length_reverse, g1]
      rw [List.length_map]
      rw [List.length_cons] at this
      omega
    rw [hst0]
    have hcb : CallB R s args (am_own own) j (am_y x) (am_b x) (am_nL x) (am_rt x) (Cond.code (am_y x) (am_b x) (am_nL x) (am_rt x) :: am_WL) (am_rm d) 0 0 (am_na x - 1) :=
      callB_of (am_na x - 1) hts (am_goodIn x hxl) rfl rfl rfl (hts _ mo2) (hts _ (by have := am_ml_in ho (am_has_mem q1); unfold am_mlw am_mn at this; rw [h4] at this; exact this)) ⟨r4, r5, r3⟩ ⟨hR.1, by show 8 + (am_nL x + 11) + (40 * d + 400) ≤ R.locals; omega⟩
    exact am_callX (va_runV (C := (am_y x).cls) (b := ad b) (As := bs.map (am_tr ad)) (rest := rest.map (am_tr ad)) ⟨hx, hb, hml, hown, hts⟩ hcall ⟨hcb, hts _ mo5, hts _ mo6⟩ ⟨am_blind ad cT D scr σ _, by rw [← r2]; exact va_recv hK hP (am_ci_all _ hci10) (by rw [am_world_at hlt, am_cell_obj hkb]), fun U hU hW => ⟨rfl, pics U hU hW⟩⟩ rfl hlen hl.1 rfl (lv_room (by rw [am_cats_sum]; exact hcs)) hd ⟨hR.2.2.1, hR.2.2.2⟩) hV cont
  · have ha1 : (am_has (j, x) (am_ml own) && (Nat.blt x 263 || decide (2000 ≤ x)) && (decide (2000 ≤ x) || am_st x)) = true := ha
    rw [Bool.and_eq_true, Bool.and_eq_true, Bool.or_eq_true, Bool.or_eq_true, decide_eq_true_eq] at ha1
    obtain ⟨⟨q1, q2⟩, q3⟩ := ha1
    have hxl : x < 263 := by
      rcases q2 with q | q
      · exact Nat.lt_of_succ_le (by simpa [Nat.blt] using q)
      · omega
    have hst : am_st x = true := by
      rcases q3 with q | q
      · omega
      · exact q
    obtain ⟨mo1, mo2, mo3, -⟩ := am_mo hxl
    have mr := am_mre hxl
    unfold am_mrest at mr
    simp only [Bool.and_eq_true, Bool.or_eq_true, decide_eq_true_eq, hst, true_or, if_true] at mr
    obtain ⟨⟨⟨⟨⟨⟨⟨⟨⟨⟨r1, r2⟩, r3⟩, r4⟩, r5⟩, r6⟩, r7⟩, r8⟩, r9⟩, r10⟩, r11⟩ := mr
    have hnl : am_nL x ≤ 20 := Nat.le_of_ble_eq_true r7
    have hcall := hE x _ σ _ h5 hx1899 hxl hok ad cT D scr hinj
    have hst0 : (S.map (am_tr ad)) = (as.map (am_tr ad)).reverse ++ rest.map (am_tr ad) := by
      rw [g3, List.map_append]
      have : xs = as.reverse := by rw [g2, List.reverse_reverse]
      rw [this, List.map_reverse]
    have hlen : (as.map (am_tr ad)).length = am_na x := by rw [List.length_map, g2, List.length_reverse, g1]
    rw [hst0]
    have hcb : CallB R s args (am_own own) j (am_y x) (am_b x) (am_nL x) (am_rt x) (Cond.code (am_y x) (am_b x) (am_nL x) (am_rt x) :: am_WL) (am_rm d) 0 0 (am_na x) :=
      callB_of (am_na x) hts (am_goodIn x hxl) rfl rfl rfl (hts _ mo2) (hts _ (by have := am_ml_in ho (am_has_mem q1); unfold am_mlw am_mn at this; rw [h4] at this; exact this)) ⟨r4, r5, r3⟩ ⟨hR.1, by show 8 + (am_nL x + 11) + (40 * d + 400) ≤ R.locals; omega⟩
    exact am_callX (va_runS (As := as.map (am_tr ad)) (rest := rest.map (am_tr ad)) ⟨hx, hb, hml, hown, hts⟩ hcall ⟨hcb, hts _ (mo3 hst)⟩ ⟨am_blind ad cT D scr σ _, fun U hU hW => ⟨rfl, pics U hU hW⟩⟩ rfl hlen hl.1 rfl (lv_room (by rw [am_cats_sum]; exact hcs)) hd ⟨hR.2.2.1, hR.2.2.2⟩) hV cont
end AS
