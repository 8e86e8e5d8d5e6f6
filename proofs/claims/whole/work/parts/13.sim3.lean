/-- what lies outside the world: the script, the one static array, the text of TOKEN_SIGNS -/
def am_St (ad : Nat → Nat) (scr : (Nat → Int) × Nat) (U : State) (H : Heap) : Prop :=
  va_Z "FortyLetters" "MOST_OF_SORT" "[I" (.ref (ad 901)) (am_A ad) U H ∧ va_T .int (ad 901) 5 (fun j => .int (Int32.ofInt (am_sta j))) (am_A ad) U H ∧ (va_X (ad 900) scr.2 (fun j => Int32.ofInt (scr.1 j)) U H ∧ ad 900 < H.size ∧ ¬ am_A ad (ad 900)) ∧ vk_R RX4 224 ";()<>=+-*/%" (ad 902) U ∧ vk_S 1 [11] [[59, 40, 41, 60, 62, 61, 43, 45, 42, 47, 37]] (fun _ => ad 902) (fun _ => ad 903) (am_A ad) U H ∧ va_Z "java/lang/String" "COMPACT_STRINGS" "Z" (.int 1) (am_A ad) U H ∧ va_Nw (.fieldLinkNest RX4 123 "FortyLetters" "MOST_OF_SORT" "[I" "FortyLetters") U
def am_Pic (ad : Nat → Nat) (cT : Nat → ClassId) (D : va_G) (scr : (Nat → Int) × Nat) (σ : am_S) (U : State) : Prop := va_P D am_cl (am_world ad cT σ) U.heap ∧ va_K D am_cl (am_tys cT) U ∧ am_oks scr σ ∧ am_St ad scr U U.heap
def am_QC (ad : Nat → Nat) (cT : Nat → ClassId) (D : va_G) (scr : (Nat → Int) × Nat) (Q : Option am_V → am_S → Prop) : Array Value → State → Outcome → State → Prop := fun _ st oc t => (∃ r σ', Q r σ' ∧ oc = .returned (r.map (am_tr ad)) ∧ va_P D am_cl (am_world ad cT σ') t.heap ∧ am_oks scr σ' ∧ (∀ v, r = some v → am_ok v)) ∧ va_F (am_A ad) st t
def am_rm (d : Nat) : Room := { frames := d + 8, cells := 0, slots := 0, locals := 40 * d + 400 }
theorem am_St_go {ad : Nat → Nat} {scr : (Nat → Int) × Nat} {s U : State} {H : Heap} {locs : List Loc} (hW : s.WarmedH U.vm) (hV : va_S (am_A ad) s.heap H locs) (h : am_St ad scr s s.heap) : am_St ad scr U H := by
  obtain ⟨h1, h2, ⟨h3, h4, h5⟩, h6, h7, h8, h9⟩ := h
  have kq : ∀ a : Nat, a < s.heap.size → ¬ am_A ad a → H[a]? = s.heap[a]? := hV.2.1
  exact ⟨(h1.moved hW.alike).kept kq, (h2.moved hW.alike).kept kq, ⟨(h3.moved hW.alike).kept (kq _ h4 h5), Nat.lt_of_lt_of_le h4 hV.1, h5⟩, h6.warm hW, (h7.moved hW.alike).kept kq, (h8.moved hW.alike).kept kq, h9.warmF hW⟩
theorem am_St_same {ad : Nat → Nat} {scr : (Nat → Int) × Nat} {u U : State} {H : Heap} (hv : U.vm = u.vm) (h : am_St ad scr u H) : am_St ad scr U H := by
  obtain ⟨h1, h2, ⟨h3, h4, h5⟩, h6, h7, h8, h9⟩ := h
  have hal : u.vm.Alike U.vm := by rw [hv]; exact Vm.Alike.refl _
  exact ⟨h1.moved hal, h2.moved hal, ⟨h3.moved hal, h4, h5⟩, h6.same hv, h7.moved hal, h8.moved hal, h9.same rfl hv.symm⟩
theorem am_blind (ad : Nat → Nat) (cT : Nat → ClassId) (D : va_G) (scr : (Nat → Int) × Nat) (σ : am_S) (as : List Value) : FrameBlind (va_Pc as (am_Pic ad cT D scr σ)) := by
  intro a U g mk h
  obtain ⟨h1, h2, h3, h4, h5⟩ := h
  exact ⟨h1, h2, va_K.moved (u := U) (U := U.calling g mk a) (Vm.Alike.refl U.vm) h3, h4, am_St_same (u := U) (U := U.calling g mk a) rfl h5⟩
section AS
variable {p : Program} {l : Launch} {e : Env} {R : Room} {s : State} {m : MethodId} {args : Array Value} {below : List Frame} {meth : Method} {c : Code} {cells slots : Nat} {Qf : State → Prop} {ad : Nat → Nat} {cT : Nat → ClassId} {D : va_G} {scr : (Nat → Int) × Nat} {own : Nat} {cc : ByteArray} {kc : List am_O}
theorem as_gets (hx : p.tables.exec = Jvm.exec) (hb : c.code = cc) (hown : s.vm.findClass (am_own own) = some m.cls) (hts : ∀ w ∈ am_WL, w.before args s = true) (hc : am_okc own cc kc = true) (hSt : am_St ad scr s s.heap) : ar_gets kc (am_Sim p l e R s m args below meth c cells slots Qf ad cT D scr) := by
  intro pc L S σ j x h1 k hL hs hS hA H locs ls hP hV hl
  obtain ⟨hd, ha, hn⟩ := am_okc_lk hc h1
  have ha' : own = 4 ∧ j = 123 := of_decide_eq_true ha
  obtain ⟨rfl, rfl⟩ := ha'
  refine va_getsN hx hb hSt.1 hV hown (va_Nw.use rfl hSt.2.2.2.2.2.2) (fun _ h => h) hd ?_
  exact k hL hs (List.forall_mem_cons.mpr ⟨trivial, hS⟩) hA H locs ls hP hV hl
theorem as_tld (hx : p.tables.exec = Jvm.exec) (hb : c.code = cc) (hc : am_okc own cc kc = true) (hSt : am_St ad scr s s.heap) : ar_tld kc (am_Sim p l e R s m args below meth c cells slots Qf ad cT D scr) := by
  intro pc L S σ x j h1 h3 h4 k hL hs hS hA H locs ls hP hV hl
  obtain ⟨hd, ha, hn⟩ := am_okc_lk hc h1
  obtain ⟨hj, hS1⟩ := List.forall_mem_cons.mp hS
  obtain ⟨-, hS2⟩ := List.forall_mem_cons.mp hS1
  refine va_ti hx hb hSt.2.1 hV (am_vin hj h3 h4) rfl hd ?_
  rw [am_clamp hj]
  refine k hL hs (List.forall_mem_cons.mpr ⟨?_, hS2⟩) hA H locs ls hP hV hl
  show am_r32 (am_sta j.toNat)
  unfold am_sta
  split <;> exact ⟨by omega, by omega⟩
theorem as_sld (hx : p.tables.exec = Jvm.exec) (hb : c.code = cc) (hc : am_okc own cc kc = true) (hSt : am_St ad scr s s.heap) : ar_sld kc (am_Sim p l e R s m args below meth c cells slots Qf ad cT D scr) := by
  intro pc L S σ x j h1 h3 h4 k hL hs hS hA H locs ls hP hV hl
  obtain ⟨hd, ha, hn⟩ := am_okc_lk hc h1
  obtain ⟨hj, hS1⟩ := List.forall_mem_cons.mp hS
  obtain ⟨-, hS2⟩ := List.forall_mem_cons.mp hS1
  have e : σ.2.2.2 = scr := hs.2.2.2.2
  rw [show σ.2.2.2.2 = scr.2 by rw [e]] at h4
  refine va_sld hx hb hSt.2.2.1.1 hSt.2.2.1.2.1 hSt.2.2.1.2.2 hV (am_vin hj h3 h4) hd ?_
  rw [am_clamp hj]
  have go := k hL hs (List.forall_mem_cons.mpr ⟨hs.2.2.1 _, hS2⟩) hA H locs ls hP hV hl
  rw [show σ.2.2.2.1 = scr.1 by rw [e]] at go
  exact go
theorem as_slen (hx : p.tables.exec = Jvm.exec) (hb : c.code = cc) (hc : am_okc own cc kc = true) (hSt : am_St ad scr s s.heap) : ar_slen kc (am_Sim p l e R s m args below meth c cells slots Qf ad cT D scr) := by
  intro pc L S σ x h1 k hL hs hS hA H locs ls hP hV hl
  obtain ⟨hd, ha, hn⟩ := am_okc_lk hc h1
  obtain ⟨-, hS1⟩ := List.forall_mem_cons.mp hS
  have e : σ.2.2.2 = scr := hs.2.2.2.2
  refine va_slen hx hb hSt.2.2.1.1 hSt.2.2.1.2.1 hSt.2.2.1.2.2 hV hd ?_
  have h8 := hs.2.2.2.1
  have go := k hL hs (List.forall_mem_cons.mpr ⟨⟨by omega, by omega⟩, hS1⟩) hA H locs ls hP hV hl
  rw [show σ.2.2.2.2 = scr.2 by rw [e]] at go
  exact go
theorem as_ldcs (hx : p.tables.exec = Jvm.exec) (hb : c.code = cc) (hown : s.vm.findClass (am_own own) = some m.cls) (hc : am_okc own cc kc = true) (hSt : am_St ad scr s s.heap) : ar_ldcs kc (am_Sim p l e R s m args below meth c cells slots Qf ad cT D scr) := by
  intro pc L S σ j x h1 hxx k hL hs hS hA H locs ls hP hV hl
  obtain ⟨hd, ha, hn⟩ := am_okc_lk hc h1
  subst hxx
  have ha1 : (if 4294968198 < 2147483648 then am_has (j, 4294968198) (am_kl own) else decide (own = 4 ∧ j = 224)) = true := ha
  rw [if_neg (by decide)] at ha1
  obtain ⟨rfl, rfl⟩ := of_decide_eq_true ha1
  refine va_ldcS hx hb hown hSt.2.2.2.1 hd ?_
  exact k hL hs (List.forall_mem_cons.mpr ⟨trivial, hS⟩) hA H locs ls hP hV hl
theorem am_cats_sum (ad : Nat → Nat) : ∀ S : List am_V, ((S.map (am_tr ad)).map fun v => v.category).sum = am_cats S
  | [] => rfl
  | v :: S => by
    rw [List.map_cons, List.map_cons, List.sum_cons, am_cats_sum ad S, am_cat_tr]
    rfl
theorem as_max (hx : p.tables.exec = Jvm.exec) (hb : c.code = cc) (hown : s.vm.findClass (am_own own) = some m.cls) (hts : ∀ w ∈ am_WL, w.before args s = true) (ho : own < 12) (hc : am_okc own cc kc = true) (hR : 1 ≤ R.frames ∧ 40 ≤ R.locals ∧ cells ≤ R.cells ∧ slots ≤ R.slots) : ar_max kc (am_Sim p l e R s m args below meth c cells slots Qf ad cT D scr) := by
  intro pc L S σ j a b h1 h2 k hL hs hS hA H locs ls hP hV hl
  obtain ⟨hd, ha, hn⟩ := am_okc_lk hc h1
  have ha1 : (am_has (j, 2000) (am_ml own) && true && true) = true := ha
  rw [Bool.and_true, Bool.and_true] at ha1
  obtain ⟨hbb, hS1⟩ := List.forall_mem_cons.mp hS
  obtain ⟨haa, hS2⟩ := List.forall_mem_cons.mp hS1
  have h9 : am_r32 a := haa
  have h8 : am_r32 b := hbb
  have hcs : am_cats S ≤ 8 := Nat.le_of_ble_eq_true h2
  refine va_mmax hx hb (by rw [← hL]; exact hl.1.symm) hown (hts _ (am_ml_in ho (am_has_mem ha1))) (hts _ (tb_3 (n := 14) rfl rfl)) (hts _ (tb_1 (n := 16) rfl rfl)) (hts _ (tb_3 (n := 15) rfl rfl)) hR.1 (by rw [am_cats_sum]; omega) hR.2.2.1 hR.2.2.2 hd ?_
  have hz : am_ok (am_I (if a < b then b else a)) := by split <;> assumption
  have go := k hL hs (List.forall_mem_cons.mpr ⟨hz, hS2⟩) hA H locs ls hP hV hl
  rw [List.map_cons, show am_tr ad (am_I (if a < b then b else a)) = .int (if Int32.ofInt a < Int32.ofInt b then Int32.ofInt b else Int32.ofInt a) by
    by_cases q : a < b
    · rw [if_pos q, if_pos ((am_lt32 h9 h8).mpr q)]; rfl
    · rw [if_neg q, if_neg (fun r => q ((am_lt32 h9 h8).mp r))]; rfl] at go
  exact go
theorem as_min (hx : p.tables.exec = Jvm.exec) (hb : c.code = cc) (hown : s.vm.findClass (am_own own) = some m.cls) (hts : ∀ w ∈ am_WL, w.before args s = true) (ho : own < 12) (hc : am_okc own cc kc = true) (hR : 1 ≤ R.frames ∧ 40 ≤ R.locals ∧ cells ≤ R.cells ∧ slots ≤ R.slots) : ar_min kc (am_Sim p l e R s m args below meth c cells slots Qf ad cT D scr) := by
  intro pc L S σ j a b h1 h2 k hL hs hS hA H locs ls hP hV hl
  obtain ⟨hd, ha, hn⟩ := am_okc_lk hc h1
  have ha1 : (am_has (j, 2001) (am_ml own) && true && true) = true := ha
  rw [Bool.and_true, Bool.and_true] at ha1
  obtain ⟨hbb, hS1⟩ := List.forall_mem_cons.mp hS
  obtain ⟨haa, hS2⟩ := List.forall_mem_cons.mp hS1
  have h9 : am_r32 a := haa
  have h8 : am_r32 b := hbb
  have hcs : am_cats S ≤ 8 := Nat.le_of_ble_eq_true h2
  refine va_mmin hx hb (by rw [← hL]; exact hl.1.symm) hown (hts _ (am_ml_in ho (am_has_mem ha1))) (hts _ (tb_2 (n := 209) rfl rfl)) (hts _ (tb_1 (n := 16) rfl rfl)) (hts _ (tb_2 (n := 210) rfl rfl)) hR.1 (by rw [am_cats_sum]; omega) hR.2.2.1 hR.2.2.2 hd ?_
  have hz : am_ok (am_I (if b < a then b else a)) := by split <;> assumption
  have go := k hL hs (List.forall_mem_cons.mpr ⟨hz, hS2⟩) hA H locs ls hP hV hl
  rw [List.map_cons, show am_tr ad (am_I (if b < a then b else a)) = .int (if Int32.ofInt b < Int32.ofInt a then Int32.ofInt b else Int32.ofInt a) by
    by_cases q : b < a
    · rw [if_pos q, if_pos ((am_lt32 h8 h9).mpr q)]; rfl
    · rw [if_neg q, if_neg (fun r => q ((am_lt32 h8 h9).mp r))]; rfl] at go
  exact go
theorem am_cpy_of (f g : Nat → Int) (sp dp n : Nat) : (fun j => Int32.ofInt (va_cpy f g sp dp n j)) = va_cpy (fun j => Int32.ofInt (f j)) (fun j => Int32.ofInt (g j)) sp dp n := by
  funext j
  unfold va_cpy
  split <;> rfl
theorem as_copy (hx : p.tables.exec = Jvm.exec) (hb : c.code = cc) (hown : s.vm.findClass (am_own own) = some m.cls) (hts : ∀ w ∈ am_WL, w.before args s = true) (ho : own < 12) (hc : am_okc own cc kc = true) (hK : va_K D am_cl (am_tys cT) s) (hinj : ∀ i j, i < am_NC → j < am_NC → ad i = ad j → i = j) (hR : 1 ≤ R.frames ∧ 40 ≤ R.locals ∧ cells ≤ R.cells ∧ slots ≤ R.slots) : ar_copy kc (am_Sim p l e R s m args below meth c cells slots Qf ad cT D scr) := by
  intro pc L S σ j a0 n1 sp a n2 dp n h1 h2 h3 h4 h5 h6 h7 h8 h9 k hL hs hS hA H locs ls hP hV hl
  obtain ⟨hd, ha, hn⟩ := am_okc_lk hc h1
  have ha1 : (am_has (j, 2002) (am_ml own) && true && true) = true := ha
  rw [Bool.and_true, Bool.and_true] at ha1
  obtain ⟨hn5, hS1⟩ := List.forall_mem_cons.mp hS
  obtain ⟨hdp, hS2⟩ := List.forall_mem_cons.mp hS1
  obtain ⟨-, hS3⟩ := List.forall_mem_cons.mp hS2
  obtain ⟨hsp, hS4⟩ := List.forall_mem_cons.mp hS3
  obtain ⟨-, hS5⟩ := List.forall_mem_cons.mp hS4
  have hcs : am_cats S ≤ 8 := Nat.le_of_ble_eq_true h2
  have hl0 := am_kd_lt h3 (by omega)
  have hl1 := am_kd_lt h4 (by omega)
  have g1 : ¬ Int32.ofInt sp < 0 := fun q => by have := (am_lt32 hsp am_r0).mp q; omega
  have g2 : ¬ Int32.ofInt dp < 0 := fun q => by have := (am_lt32 hdp am_r0).mp q; omega
  have g3 : ¬ Int32.ofInt n < 0 := fun q => by have := (am_lt32 hn5 am_r0).mp q; omega
  refine va_copyi hx hb (by rw [← hL]; exact hl.1.symm) hown (hts _ (am_ml_in ho (am_has_mem ha1))) (hts _ (tb_2 (n := 132) rfl rfl)) (hts _ (tb_2 (n := 131) rfl rfl)) (hts _ (tb_1 (n := 14) rfl rfl)) hK hP (am_apart hinj cT σ) hV a0 a 0 0 (by rw [am_world_at hl0, am_cell_0 h3]) (by rw [am_world_at hl1, am_cell_0 h4]) rfl rfl rfl g1 g2 g3 (by rw [am_clamp hsp, am_clamp hn5]; omega) (by rw [am_clamp hdp, am_clamp hn5]; omega) (fun i _ => rfl) hR.1 (by rw [am_cats_sum]; have := (by decide +kernel : nativeFrameWords "java/lang/System" "arraycopy" 5 ≤ 20); omega) hd (fun H1 locs1 hP1 hD1 hV1 => ?_)
  rw [am_clamp hsp, am_clamp hdp, am_clamp hn5, ← am_cpy_of, am_world_set (σ' := am_sI σ a (va_cpy (σ.1 a0) (σ.1 a) sp.toNat dp.toNat n.toNat)) hl1 (by rw [am_cell_0 h4]; show (Sum.inl (cT 0, n2, Sum.inl (fun i => Int32.ofInt (am_up σ.1 a (va_cpy (σ.1 a0) (σ.1 a) sp.toNat dp.toNat n.toNat) a i))) : va_E) = _; rw [am_up_same]) (fun b hb => am_cell_sI hb)] at hP1
  refine k hL (am_oks_sI hs (fun q => ?_)) hS5 hA H1 locs1 ls hP1 hV1 hl
  unfold va_cpy
  split
  · exact hs.1 _ _
  · exact hs.1 _ _
end AS
