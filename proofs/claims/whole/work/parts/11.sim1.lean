/-! every rule of the abstract machine holds of the machine: a state of the one stands for a state of the other -/
def am_Sim (p : Program) (l : Launch) (e : Env) (R : Room) (s : State) (m : MethodId) (args : Array Value) (below : List Frame) (meth : Method) (c : Code) (cells slots : Nat) (Qf : State → Prop) (ad : Nat → Nat) (cT : Nat → ClassId) (D : va_G) (scr : (Nat → Int) × Nat) (pc : Nat) (L : List (Option am_V)) (S : List am_V) (σ : am_S) : Prop :=
  L.length = c.maxLocals → am_oks scr σ → (∀ v ∈ S, am_ok v) → (∀ v, some v ∈ L → am_ok v) → ∀ (H : Heap) (locs : List Loc) (ls : Array Slot), va_P D am_cl (am_world ad cT σ) H → va_S (am_A ad) s.heap H locs → am_lrep ad ls L → W p l e R s m args below meth c H locs cells slots Qf (F0 m pc ls (S.map (am_tr ad)))
theorem am_lc_ok (q : Fin 2) : am_ok (am_J ((q : Nat) : Int)) := by
  have := q.isLt
  exact ⟨by omega, by omega⟩
theorem am_aux_ldc {own pc j x : Nat} (h : am_auxb own pc (.ldc j) x = true) (hx : x ≤ 2147483647) : am_has (j, x) (am_kl own) = true := by
  have h1 : (if x < 2147483648 then am_has (j, x) (am_kl own) else decide (own = 4 ∧ j = 224)) = true := h
  rwa [if_pos (by omega)] at h1
section AS
variable {p : Program} {l : Launch} {e : Env} {R : Room} {s : State} {m : MethodId} {args : Array Value} {below : List Frame} {meth : Method} {c : Code} {cells slots : Nat} {Qf : State → Prop} {ad : Nat → Nat} {cT : Nat → ClassId} {D : va_G} {scr : (Nat → Int) × Nat} {own : Nat} {cc : ByteArray} {kc : List am_O}
theorem as_const (hx : p.tables.exec = Jvm.exec) (hb : c.code = cc) (hown : s.vm.findClass (am_own own) = some m.cls) (hts : ∀ w ∈ am_WL, w.before args s = true) (ho : own < 12) (hc : am_okc own cc kc = true) : ar_const kc (am_Sim p l e R s m args below meth c cells slots Qf ad cT D scr) := by
  intro pc L S σ i n x v h1 h2 k hL hs hS hA H locs ls hP hV hl
  obtain ⟨hd, ha, hn⟩ := am_okc_lk hc h1
  have fin : ∀ {z}, am_ok z → (∀ u ∈ z :: S, am_ok u) := fun h => List.forall_mem_cons.mpr ⟨h, hS⟩
  unfold am_kst at h2
  split at h2
  · split at h2
    next hin =>
      cases h2
      cases Nat.eq_of_beq_eq_true hn
      refine lv_iconst hx hb hd rfl ?_
      exact k hL hs (fin (am_in_ok hin (by decide) (by decide))) hA H locs ls hP hV hl
    next => cases h2
  · split at h2
    next hin =>
      cases h2
      cases Nat.eq_of_beq_eq_true hn
      refine lv_bipush hx hb hd (am_bi hin) ?_
      exact k hL hs (fin (am_in_ok hin (by decide) (by decide))) hA H locs ls hP hV hl
    next => cases h2
  · split at h2
    next hin =>
      cases h2
      cases Nat.eq_of_beq_eq_true hn
      refine lv_sipush hx hb hd (am_si hin) ?_
      exact k hL hs (fin (am_in_ok hin (by decide) (by decide))) hA H locs ls hP hV hl
    next => cases h2
  · cases h2
    cases Nat.eq_of_beq_eq_true hn
    refine lv_lconst hx hb hd (am_lc _) ?_
    exact k hL hs (fin (am_lc_ok _)) hA H locs ls hP hV hl
  · split at h2
    next hin =>
      cases h2
      cases Nat.eq_of_beq_eq_true hn
      have h9 : x ≤ 2147483647 := Nat.le_of_ble_eq_true hin
      refine lv_ldc hx hb hown (hts _ (am_kl_in ho (am_has_mem (am_aux_ldc ha h9)))) hd ?_
      exact k hL hs (fin ⟨by omega, by omega⟩) hA H locs ls hP hV hl
    next => cases h2
  · split at h2
    next hin =>
      cases h2
      cases Nat.eq_of_beq_eq_true hn
      have h9 : x ≤ 2147483647 := Nat.le_of_ble_eq_true hin
      refine lv_ldcw hx hb hown (hts _ (am_kl_in ho (am_has_mem ha))) hd ?_
      exact k hL hs (fin ⟨by omega, by omega⟩) hA H locs ls hP hV hl
    next => cases h2
  · split at h2
    next hin =>
      cases h2
      cases Nat.eq_of_beq_eq_true hn
      have h9 : x ≤ 9223372036854775807 := Nat.le_of_ble_eq_true hin
      refine lv_ldc2 hx hb hown (hts _ (am_jl_in ho (am_has_mem ha))) hd ?_
      exact k hL hs (fin ⟨by omega, by omega⟩) hA H locs ls hP hV hl
    next => cases h2
  · cases h2
theorem as_load (hx : p.tables.exec = Jvm.exec) (hb : c.code = cc) (hc : am_okc own cc kc = true) : ar_load kc (am_Sim p l e R s m args below meth c cells slots Qf ad cT D scr) := by
  intro pc L S σ i n x kk t v h1 h2 h3 h4 k hL hs hS hA H locs ls hP hV hl
  obtain ⟨hd, ha, hn⟩ := am_okc_lk hc h1
  have hv := am_lrep_at hl h3
  have fin : ∀ u ∈ v :: S, am_ok u := List.forall_mem_cons.mpr ⟨hA v (List.mem_of_getElem? h3), hS⟩
  have go := k hL hs fin hA H locs ls hP hV hl
  unfold am_ldk at h2
  split at h2
  · cases h2
    cases Nat.eq_of_beq_eq_true hn
    rcases v with z | z | _ | a <;> first | (cases h4; done) | exact lv_iload_n hx hb hd rfl hv go
  · cases h2
    cases Nat.eq_of_beq_eq_true hn
    rcases v with z | z | _ | a <;> first | (cases h4; done) | exact lv_iload hx hb hd hv go
  · cases h2
    cases Nat.eq_of_beq_eq_true hn
    rcases v with z | z | _ | a <;> first | (cases h4; done) | exact lv_lload_n hx hb hd rfl hv go
  · cases h2
    cases Nat.eq_of_beq_eq_true hn
    rcases v with z | z | _ | a <;> first | (cases h4; done) | exact lv_lload hx hb hd hv go
  · cases h2
    cases Nat.eq_of_beq_eq_true hn
    rcases v with z | z | _ | a <;> first | (cases h4; done) | exact lv_aload_n hx hb hd rfl hv go | exact lv_aload_nN hx hb hd rfl hv go
  · cases h2
    cases Nat.eq_of_beq_eq_true hn
    rcases v with z | z | _ | a <;> first | (cases h4; done) | exact lv_aload hx hb hd hv go | exact lv_aloadN hx hb hd hv go
  · cases h2
theorem am_okL_set {L : List (Option am_V)} {k : Nat} {v : am_V} (hA : ∀ v, some v ∈ L → am_ok v) (hv : am_ok v) : ∀ u, some u ∈ L.set k (some v) → am_ok u := by
  intro u hu
  rcases List.mem_or_eq_of_mem_set hu with h | h
  · exact hA u h
  · cases h; exact hv
theorem as_store (hx : p.tables.exec = Jvm.exec) (hb : c.code = cc) (hc : am_okc own cc kc = true) : ar_store kc (am_Sim p l e R s m args below meth c cells slots Qf ad cT D scr) := by
  intro pc L S σ i n x kk t v h1 h2 h3 h4 k hL hs hS hA H locs ls hP hV hl
  obtain ⟨hd, ha, hn⟩ := am_okc_lk hc h1
  obtain ⟨hv, hS'⟩ := List.forall_mem_cons.mp hS
  have hkl : kk < L.length := by
    unfold am_stOK at h4
    rw [Bool.and_eq_true] at h4
    exact Nat.lt_of_succ_le (by simpa [Nat.blt] using h4.1)
  have go := fun ls' (h : am_lrep ad ls' (L.set kk (some v))) => k (by rw [List.length_set]; exact hL) hs hS' (am_okL_set hA hv) H locs ls' hP hV h
  unfold am_stk at h2
  split at h2
  · cases h2
    cases Nat.eq_of_beq_eq_true hn
    rcases v with z | z | _ | a <;> first | (cases h3; done) | exact lv_istore_n hx hb hd rfl hl hkl rfl (fun ls' h => go ls' (am_lrep_set rfl h4 h))
  · cases h2
    cases Nat.eq_of_beq_eq_true hn
    rcases v with z | z | _ | a <;> first | (cases h3; done) | exact lv_istore hx hb hd hl hkl rfl (fun ls' h => go ls' (am_lrep_set rfl h4 h))
  · cases h2
    cases Nat.eq_of_beq_eq_true hn
    rcases v with z | z | _ | a <;> first | (cases h3; done) | exact lv_astore_n hx hb hd rfl hl hkl rfl (fun ls' h => go ls' (am_lrep_set rfl h4 h)) | exact lv_astore_nN hx hb hd rfl hl hkl rfl (fun ls' h => go ls' (am_lrep_set rfl h4 h))
  · cases h2
    cases Nat.eq_of_beq_eq_true hn
    rcases v with z | z | _ | a <;> first | (cases h3; done) | exact lv_astore hx hb hd hl hkl rfl (fun ls' h => go ls' (am_lrep_set rfl h4 h)) | exact lv_astoreN hx hb hd hl hkl rfl (fun ls' h => go ls' (am_lrep_set rfl h4 h))
  · cases h2
theorem as_iinc (hx : p.tables.exec = Jvm.exec) (hb : c.code = cc) (hc : am_okc own cc kc = true) : ar_iinc kc (am_Sim p l e R s m args below meth c cells slots Qf ad cT D scr) := by
  intro pc L S σ kk d x z h1 h3 h4 k hL hs hS hA H locs ls hP hV hl
  obtain ⟨hd, ha, hn⟩ := am_okc_lk hc h1
  have hkl : kk < L.length := (List.getElem?_eq_some_iff.mp h3).1
  obtain ⟨q, hq⟩ := List.getElem?_of_mem (am_asc_mem.mpr ⟨am_I z, h3, rfl⟩ : (kk, am_tr ad (am_I z)) ∈ am_asc ad L)
  refine lv_iinc (k := q) (x := Int32.ofInt z) hx hb hd hl hq rfl hkl rfl (fun ls' h => ?_)
  have e1 : Int32.ofInt (am_w (z + d)) = Int32.ofInt z + Int32.ofInt d := by
    unfold am_w
    rw [Int32.ofInt_toInt, Int32.ofInt_add]
  refine k (by rw [List.length_set]; exact hL) hs hS (am_okL_set hA (am_rI _)) H locs ls' hP hV (am_lrep_set (w := .int (Int32.ofInt z + Int32.ofInt d)) ?_ h4 h)
  show Value.int _ = _
  rw [e1]
theorem as_bop (hx : p.tables.exec = Jvm.exec) (hb : c.code = cc) (hc : am_okc own cc kc = true) : ar_bop kc (am_Sim p l e R s m args below meth c cells slots Qf ad cT D scr) := by
  intro pc L S σ i x f a b h1 h2 k hL hs hS hA H locs ls hP hV hl
  obtain ⟨hd, ha, hn⟩ := am_okc_lk hc h1
  obtain ⟨-, hS1⟩ := List.forall_mem_cons.mp hS
  obtain ⟨-, hS2⟩ := List.forall_mem_cons.mp hS1
  have go : ∀ y : Int32, f a b = y.toInt → W p l e R s m args below meth c H locs cells slots Qf (F0 m (pc + 1) ls (.int y :: S.map (am_tr ad))) := by
    intro y hy
    have := k hL hs (List.forall_mem_cons.mpr ⟨by show am_r32 _; rw [hy]; exact am_rI y, hS2⟩) hA H locs ls hP hV hl
    rw [hy] at this
    have e : am_tr ad (am_I y.toInt) = .int y := by
      show Value.int _ = _
      rw [Int32.ofInt_toInt]
    rw [List.map_cons, e] at this
    exact this
  unfold am_bop at h2
  split at h2
  · cases h2
    exact lv_iadd hx hb hd (go _ (by show (Int32.ofInt (a + b)).toInt = _; rw [Int32.ofInt_add]))
  · cases h2
    exact lv_isub hx hb hd (go _ (by show (Int32.ofInt (a - b)).toInt = _; rw [Int32.ofInt_sub]))
  · cases h2
    exact lv_imul hx hb hd (go _ (by show (Int32.ofInt (a * b)).toInt = _; rw [Int32.ofInt_mul]))
  · cases h2
    exact lv_iand hx hb hd (go _ rfl)
  · cases h2
    exact lv_ior hx hb hd (go _ rfl)
  · cases h2
    exact lv_ixor hx hb hd (go _ rfl)
  · cases h2
    exact lv_ishl hx hb hd (go _ rfl)
  · cases h2
    exact lv_ishr hx hb hd (go _ rfl)
  · cases h2
    exact lv_iushr hx hb hd rfl (go _ rfl)
  · cases h2
theorem am_ne0 {b : Int} (hb : am_r32 b) (h : b ≠ 0) : ¬ Int32.ofInt b = 0 := fun q => h ((am_eq32 hb am_r0).mp (q.trans rfl))
theorem as_div (hx : p.tables.exec = Jvm.exec) (hb : c.code = cc) (hc : am_okc own cc kc = true) : ar_div kc (am_Sim p l e R s m args below meth c cells slots Qf ad cT D scr) := by
  intro pc L S σ x a b h1 h2 k hL hs hS hA H locs ls hP hV hl
  obtain ⟨hd, ha, hn⟩ := am_okc_lk hc h1
  obtain ⟨hbb, hS1⟩ := List.forall_mem_cons.mp hS
  obtain ⟨-, hS2⟩ := List.forall_mem_cons.mp hS1
  refine lv_idiv hx hb hd (am_ne0 hbb h2) ?_
  have := k hL hs (List.forall_mem_cons.mpr ⟨am_rI _, hS2⟩) hA H locs ls hP hV hl
  rw [List.map_cons, show am_tr ad (am_I (am_div a b)) = .int (Int32.ofInt a / Int32.ofInt b) by show Value.int (Int32.ofInt (am_div a b)) = _; unfold am_div; rw [Int32.ofInt_toInt]] at this
  exact this
theorem as_rem (hx : p.tables.exec = Jvm.exec) (hb : c.code = cc) (hc : am_okc own cc kc = true) : ar_rem kc (am_Sim p l e R s m args below meth c cells slots Qf ad cT D scr) := by
  intro pc L S σ x a b h1 h2 k hL hs hS hA H locs ls hP hV hl
  obtain ⟨hd, ha, hn⟩ := am_okc_lk hc h1
  obtain ⟨hbb, hS1⟩ := List.forall_mem_cons.mp hS
  obtain ⟨-, hS2⟩ := List.forall_mem_cons.mp hS1
  refine lv_irem hx hb hd (am_ne0 hbb h2) ?_
  have := k hL hs (List.forall_mem_cons.mpr ⟨am_rI _, hS2⟩) hA H locs ls hP hV hl
  rw [List.map_cons, show am_tr ad (am_I (am_rem a b)) = .int (Int32.ofInt a - Int32.ofInt a / Int32.ofInt b * Int32.ofInt b) by show Value.int (Int32.ofInt (am_rem a b)) = _; unfold am_rem; rw [Int32.ofInt_toInt]] at this
  exact this
theorem as_i2l (hx : p.tables.exec = Jvm.exec) (hb : c.code = cc) (hc : am_okc own cc kc = true) : ar_i2l kc (am_Sim p l e R s m args below meth c cells slots Qf ad cT D scr) := by
  intro pc L S σ x a h1 k hL hs hS hA H locs ls hP hV hl
  obtain ⟨hd, ha, hn⟩ := am_okc_lk hc h1
  obtain ⟨haa, hS1⟩ := List.forall_mem_cons.mp hS
  have h9 : am_r32 a := haa
  refine lv_i2l hx hb hd (am_i2l h9) ?_
  exact k hL hs (List.forall_mem_cons.mpr ⟨⟨by have := h9.1; omega, by have := h9.2; omega⟩, hS1⟩) hA H locs ls hP hV hl
theorem as_lor (hx : p.tables.exec = Jvm.exec) (hb : c.code = cc) (hc : am_okc own cc kc = true) : ar_lor kc (am_Sim p l e R s m args below meth c cells slots Qf ad cT D scr) := by
  intro pc L S σ x a b h1 k hL hs hS hA H locs ls hP hV hl
  obtain ⟨hd, ha, hn⟩ := am_okc_lk hc h1
  obtain ⟨-, hS1⟩ := List.forall_mem_cons.mp hS
  obtain ⟨-, hS2⟩ := List.forall_mem_cons.mp hS1
  refine lv_lor hx hb hd ?_
  have := k hL hs (List.forall_mem_cons.mpr ⟨am_rJ _, hS2⟩) hA H locs ls hP hV hl
  rw [List.map_cons, show am_tr ad (am_J (am_lor a b)) = .long (Int64.ofInt a ||| Int64.ofInt b) by show Value.long (Int64.ofInt (am_lor a b)) = _; unfold am_lor; rw [Int64.ofInt_toInt]] at this
  exact this
theorem as_lshl (hx : p.tables.exec = Jvm.exec) (hb : c.code = cc) (hc : am_okc own cc kc = true) : ar_lshl kc (am_Sim p l e R s m args below meth c cells slots Qf ad cT D scr) := by
  intro pc L S σ x a b h1 k hL hs hS hA H locs ls hP hV hl
  obtain ⟨hd, ha, hn⟩ := am_okc_lk hc h1
  obtain ⟨-, hS1⟩ := List.forall_mem_cons.mp hS
  obtain ⟨-, hS2⟩ := List.forall_mem_cons.mp hS1
  refine lv_lshl hx hb hd rfl ?_
  have := k hL hs (List.forall_mem_cons.mpr ⟨am_rJ _, hS2⟩) hA H locs ls hP hV hl
  rw [List.map_cons, show am_tr ad (am_J (am_lshl a b)) = .long (Int64.ofInt a <<< ((Int32.ofInt b).toInt64 &&& 63)) by show Value.long (Int64.ofInt (am_lshl a b)) = _; unfold am_lshl; rw [Int64.ofInt_toInt]] at this
  exact this
theorem as_lcmp (hx : p.tables.exec = Jvm.exec) (hb : c.code = cc) (hc : am_okc own cc kc = true) : ar_lcmp kc (am_Sim p l e R s m args below meth c cells slots Qf ad cT D scr) := by
  intro pc L S σ x a b h1 k hL hs hS hA H locs ls hP hV hl
  obtain ⟨hd, ha, hn⟩ := am_okc_lk hc h1
  obtain ⟨hbb, hS1⟩ := List.forall_mem_cons.mp hS
  obtain ⟨haa, hS2⟩ := List.forall_mem_cons.mp hS1
  refine W.lcmp hx hb hd ?_
  have h9 : am_r32 (am_lcmp a b) := by
    unfold am_lcmp
    split
    · exact ⟨by omega, by omega⟩
    · split <;> exact ⟨by omega, by omega⟩
  have := k hL hs (List.forall_mem_cons.mpr ⟨h9, hS2⟩) hA H locs ls hP hV hl
  rw [List.map_cons, show am_tr ad (am_I (am_lcmp a b)) = .int (lg_cmp (Int64.ofInt a) (Int64.ofInt b)) by show Value.int (Int32.ofInt (am_lcmp a b)) = _; rw [am_lcmp_of haa hbb]] at this
  exact this
theorem as_i2b (hx : p.tables.exec = Jvm.exec) (hb : c.code = cc) (hc : am_okc own cc kc = true) : ar_i2b kc (am_Sim p l e R s m args below meth c cells slots Qf ad cT D scr) := by
  intro pc L S σ x a h1 k hL hs hS hA H locs ls hP hV hl
  obtain ⟨hd, ha, hn⟩ := am_okc_lk hc h1
  obtain ⟨haa, hS1⟩ := List.forall_mem_cons.mp hS
  refine lv_i2b hx hb hd rfl ?_
  have := k hL hs (List.forall_mem_cons.mpr ⟨am_rI _, hS1⟩) hA H locs ls hP hV hl
  rw [List.map_cons, show am_tr ad (am_I (am_i2b a)) = .int (Int32.ofInt a).toInt8.toInt32 by show Value.int (Int32.ofInt (am_i2b a)) = _; unfold am_i2b; rw [Int32.ofInt_toInt]] at this
  exact this
theorem as_i2c (hx : p.tables.exec = Jvm.exec) (hb : c.code = cc) (hc : am_okc own cc kc = true) : ar_i2c kc (am_Sim p l e R s m args below meth c cells slots Qf ad cT D scr) := by
  intro pc L S σ x a h1 k hL hs hS hA H locs ls hP hV hl
  obtain ⟨hd, ha, hn⟩ := am_okc_lk hc h1
  obtain ⟨haa, hS1⟩ := List.forall_mem_cons.mp hS
  refine lv_i2c hx hb hd rfl ?_
  have := k hL hs (List.forall_mem_cons.mpr ⟨am_rI _, hS1⟩) hA H locs ls hP hV hl
  rw [List.map_cons, show am_tr ad (am_I (am_i2c a)) = .int ((Int32.ofInt a).toUInt32 % 65536).toInt32 by show Value.int (Int32.ofInt (am_i2c a)) = _; unfold am_i2c; rw [Int32.ofInt_toInt]] at this
  exact this
theorem as_dup (hx : p.tables.exec = Jvm.exec) (hb : c.code = cc) (hc : am_okc own cc kc = true) : ar_dup kc (am_Sim p l e R s m args below meth c cells slots Qf ad cT D scr) := by
  intro pc L S σ x v h1 h2 k hL hs hS hA H locs ls hP hV hl
  obtain ⟨hd, ha, hn⟩ := am_okc_lk hc h1
  obtain ⟨hv, hS1⟩ := List.forall_mem_cons.mp hS
  refine lv_dup hx hb hd (by rw [am_cat_tr]; exact h2) ?_
  exact k hL hs (List.forall_mem_cons.mpr ⟨hv, hS⟩) hA H locs ls hP hV hl
theorem as_pop (hx : p.tables.exec = Jvm.exec) (hb : c.code = cc) (hc : am_okc own cc kc = true) : ar_pop kc (am_Sim p l e R s m args below meth c cells slots Qf ad cT D scr) := by
  intro pc L S σ x v h1 h2 k hL hs hS hA H locs ls hP hV hl
  obtain ⟨hd, ha, hn⟩ := am_okc_lk hc h1
  obtain ⟨hv, hS1⟩ := List.forall_mem_cons.mp hS
  refine lv_pop hx hb hd (by rw [am_cat_tr]; exact h2) ?_
  exact k hL hs hS1 hA H locs ls hP hV hl
theorem as_dup2 (hx : p.tables.exec = Jvm.exec) (hb : c.code = cc) (hc : am_okc own cc kc = true) : ar_dup2 kc (am_Sim p l e R s m args below meth c cells slots Qf ad cT D scr) := by
  intro pc L S σ x v w h1 h2 h3 k hL hs hS hA H locs ls hP hV hl
  obtain ⟨hd, ha, hn⟩ := am_okc_lk hc h1
  obtain ⟨hw, hS1⟩ := List.forall_mem_cons.mp hS
  obtain ⟨hv, hS2⟩ := List.forall_mem_cons.mp hS1
  refine lv_dup2_11 hx hb hd (by rw [am_cat_tr]; exact h3) (by rw [am_cat_tr]; exact h2) ?_
  exact k hL hs (List.forall_mem_cons.mpr ⟨hw, List.forall_mem_cons.mpr ⟨hv, hS⟩⟩) hA H locs ls hP hV hl
theorem as_if (hx : p.tables.exec = Jvm.exec) (hb : c.code = cc) (hc : am_okc own cc kc = true) : ar_if kc (am_Sim p l e R s m args below meth c cells slots Qf ad cT D scr) := by
  intro pc L S σ cd o x a h1 kt kf hL hs hS hA H locs ls hP hV hl
  obtain ⟨hd, ha, hn⟩ := am_okc_lk hc h1
  have ht : (pc : Int) + o = (x : Int) := of_decide_eq_true ha
  obtain ⟨haa, hS1⟩ := List.forall_mem_cons.mp hS
  have h9 : am_r32 a := haa
  have gt := fun q => kt q hL hs hS1 hA H locs ls hP hV hl
  have gf := fun q => kf q hL hs hS1 hA H locs ls hP hV hl
  have z0 : Int32.ofInt 0 = 0 := rfl
  cases cd with
  | eq => exact lv_if_eq hx hb hd ht (fun q => gt ((am_eq32 h9 am_r0).mp q)) (fun q => gf (fun r => q ((am_eq32 h9 am_r0).mpr r)))
  | ne => exact lv_if_ne hx hb hd ht (fun q => gt (fun r => q ((am_eq32 h9 am_r0).mpr r))) (fun q => gf (fun r => r ((am_eq32 h9 am_r0).mp q)))
  | lt => exact lv_if_lt hx hb hd ht (fun q => gt ((am_lt32 h9 am_r0).mp q)) (fun q => gf (fun r => q ((am_lt32 h9 am_r0).mpr r)))
  | ge => exact lv_if_ge hx hb hd ht (fun q => gt ((am_le32 am_r0 h9).mp q)) (fun q => gf (fun r => q ((am_le32 am_r0 h9).mpr r)))
  | gt => exact lv_if_gt hx hb hd ht (fun q => gt ((am_lt32 am_r0 h9).mp q)) (fun q => gf (fun r => q ((am_lt32 am_r0 h9).mpr r)))
  | le => exact lv_if_le hx hb hd ht (fun q => gt ((am_le32 h9 am_r0).mp q)) (fun q => gf (fun r => q ((am_le32 h9 am_r0).mpr r)))
theorem as_icmp (hx : p.tables.exec = Jvm.exec) (hb : c.code = cc) (hc : am_okc own cc kc = true) : ar_icmp kc (am_Sim p l e R s m args below meth c cells slots Qf ad cT D scr) := by
  intro pc L S σ cd o x a b h1 kt kf hL hs hS hA H locs ls hP hV hl
  obtain ⟨hd, ha, hn⟩ := am_okc_lk hc h1
  have ht : (pc : Int) + o = (x : Int) := of_decide_eq_true ha
  obtain ⟨hbb, hS1⟩ := List.forall_mem_cons.mp hS
  obtain ⟨haa, hS2⟩ := List.forall_mem_cons.mp hS1
  have h9 : am_r32 a := haa
  have h8 : am_r32 b := hbb
  have gt := fun q => kt q hL hs hS2 hA H locs ls hP hV hl
  have gf := fun q => kf q hL hs hS2 hA H locs ls hP hV hl
  cases cd with
  | eq => exact lv_icmp_eq hx hb hd ht (fun q => gt ((am_eq32 h9 h8).mp q)) (fun q => gf (fun r => q ((am_eq32 h9 h8).mpr r)))
  | ne => exact lv_icmp_ne hx hb hd ht (fun q => gt (fun r => q ((am_eq32 h9 h8).mpr r))) (fun q => gf (fun r => r ((am_eq32 h9 h8).mp q)))
  | lt => exact lv_icmp_lt hx hb hd ht (fun q => gt ((am_lt32 h9 h8).mp q)) (fun q => gf (fun r => q ((am_lt32 h9 h8).mpr r)))
  | ge => exact lv_icmp_ge hx hb hd ht (fun q => gt ((am_le32 h8 h9).mp q)) (fun q => gf (fun r => q ((am_le32 h8 h9).mpr r)))
  | gt => exact lv_icmp_gt hx hb hd ht (fun q => gt ((am_lt32 h8 h9).mp q)) (fun q => gf (fun r => q ((am_lt32 h8 h9).mpr r)))
  | le => exact lv_icmp_le hx hb hd ht (fun q => gt ((am_le32 h9 h8).mp q)) (fun q => gf (fun r => q ((am_le32 h9 h8).mpr r)))
theorem as_goto (hx : p.tables.exec = Jvm.exec) (hb : c.code = cc) (hc : am_okc own cc kc = true) : ar_goto kc (am_Sim p l e R s m args below meth c cells slots Qf ad cT D scr) := by
  intro pc L S σ o x h1 k hL hs hS hA H locs ls hP hV hl
  obtain ⟨hd, ha, hn⟩ := am_okc_lk hc h1
  have ht : (pc : Int) + o = (x : Int) := of_decide_eq_true ha
  exact lv_goto hx hb hd ht (k hL hs hS hA H locs ls hP hV hl)
theorem as_tsw (hx : p.tables.exec = Jvm.exec) (hb : c.code = cc) (hc : am_okc own cc kc = true) : ar_tsw kc (am_Sim p l e R s m args below meth c cells slots Qf ad cT D scr) := by
  intro pc L S σ dd lo hi os n x z h1 k hL hs hS hA H locs ls hP hV hl
  obtain ⟨hd, ha, hn⟩ := am_okc_lk hc h1
  have ha' : (decide (0 ≤ (pc : Int) + dd) && os.toList.all (fun q => decide (0 ≤ (pc : Int) + q)) && decide (((os.size : Nat) : Int) = hi - lo + 1)) = true := ha
  rw [Bool.and_eq_true, Bool.and_eq_true] at ha'
  obtain ⟨⟨q1, q2⟩, q5⟩ := ha'
  have q5 : ((os.size : Nat) : Int) = hi - lo + 1 := of_decide_eq_true q5
  have q1 : 0 ≤ (pc : Int) + dd := of_decide_eq_true q1
  obtain ⟨hz, hS1⟩ := List.forall_mem_cons.mp hS
  have h9 : am_r32 z := hz
  have go := k hL hs hS1 hA H locs ls hP hV hl
  have et := am_t32 h9
  by_cases hr : z < lo ∨ hi < z
  · refine lv_tableOut hx hb hd (by rw [et]; exact hr) (?_ : (pc : Int) + dd = ((am_tsw pc dd lo hi os z : Nat) : Int)) go
    unfold am_tsw
    rw [if_pos hr]
    omega
  · have h1 : ¬ z < lo := fun q => hr (Or.inl q)
    have h2 : ¬ hi < z := fun q => hr (Or.inr q)
    cases ho : os[(z - lo).toNat]? with
    | none =>
      exfalso
      have := Array.getElem?_eq_none_iff.mp ho
      omega
    | some off =>
      refine lv_tableIn hx hb hd (by rw [et]; exact h1) (by rw [et]; exact h2) (by rw [et]; exact ho) (?_ : (pc : Int) + off = ((am_tsw pc dd lo hi os z : Nat) : Int)) go
      have q3 : 0 ≤ (pc : Int) + off := of_decide_eq_true (List.all_eq_true.mp q2 off (by rw [← Array.getElem?_toList] at ho; exact List.mem_of_getElem? ho))
      unfold am_tsw
      rw [if_neg hr, ho]
      show (pc : Int) + off = (((pc : Int) + off).toNat : Int)
      omega
theorem as_lsw (hx : p.tables.exec = Jvm.exec) (hb : c.code = cc) (hc : am_okc own cc kc = true) : ar_lsw kc (am_Sim p l e R s m args below meth c cells slots Qf ad cT D scr) := by
  intro pc L S σ dd ps n x z h1 k hL hs hS hA H locs ls hP hV hl
  obtain ⟨hd, ha, hn⟩ := am_okc_lk hc h1
  have ha' : (decide (0 ≤ (pc : Int) + dd) && ps.toList.all (fun q => decide (0 ≤ (pc : Int) + q.2)) && (ps.toList.zip (ps.toList.drop 1)).all (fun (a, next) => a.1 < next.1)) = true := ha
  rw [Bool.and_eq_true, Bool.and_eq_true] at ha'
  obtain ⟨⟨q1, q2⟩, q3⟩ := ha'
  have q1 : 0 ≤ (pc : Int) + dd := of_decide_eq_true q1
  obtain ⟨hz, hS1⟩ := List.forall_mem_cons.mp hS
  have h9 : am_r32 z := hz
  have go := k hL hs hS1 hA H locs ls hP hV hl
  have et := am_t32 h9
  refine lv_lookup hx hb hd q3 (off := Op.lookupswitch.offset ps.toList dd z) (by rw [et]) (?_ : (pc : Int) + _ = ((am_lsw pc dd ps.toList z : Nat) : Int)) go
  have q4 : 0 ≤ (pc : Int) + Op.lookupswitch.offset ps.toList dd z := am_lsw_nn ps.toList (fun q hq => of_decide_eq_true (List.all_eq_true.mp q2 q hq)) q1
  unfold am_lsw
  omega
end AS
