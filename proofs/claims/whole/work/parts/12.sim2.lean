section AS
variable {p : Program} {l : Launch} {e : Env} {R : Room} {s : State} {m : MethodId} {args : Array Value} {below : List Frame} {meth : Method} {c : Code} {cells slots : Nat} {Qf : State → Prop} {ad : Nat → Nat} {cT : Nat → ClassId} {D : va_G} {scr : (Nat → Int) × Nat} {own : Nat} {cc : ByteArray} {kc : List am_O}
theorem as_fval_ok {σ : am_S} (hs : am_oks scr σ) (a ci k : Nat) : am_ok (am_fval σ a ci k) := by
  unfold am_fval
  split
  · exact hs.1 a k
  · exact hs.2.1 a k
  · trivial
  · exact hs.1 a k
  · trivial
theorem am_cell_obj {σ : am_S} {a ci : Nat} (h : am_kd a = (6, ci)) : am_cell ad cT σ a = .inr (ci, (List.range (am_nf ci)).map (fun k => am_tr ad (am_fval σ a ci k))) := by
  unfold am_cell
  rw [h]
  rfl
/-- what is known of a link of a field -/
theorem am_fl_use (ho : own < 12) {j x : Nat} (h : am_has (j, x) (am_fl own) = true) : am_flw own (j, x) ∈ am_WL := am_fl_in ho (am_has_mem h)
theorem am_ci_all : ∀ ci, ci < 10 → am_cl[ci]? = some (am_own ci, am_T ci, am_nf ci) := by
  intro ci h
  match ci, h with
  | 0, _ => rfl
  | 1, _ => rfl
  | 2, _ => rfl
  | 3, _ => rfl
  | 4, _ => rfl
  | 5, _ => rfl
  | 6, _ => rfl
  | 7, _ => rfl
  | 8, _ => rfl
  | 9, _ => rfl
theorem am_kd_ci : ∀ a, a < am_NC → (am_kd a).1 = 6 → (am_kd a).2 < 10 := by decide +kernel
theorem as_getf (hx : p.tables.exec = Jvm.exec) (hb : c.code = cc) (hown : s.vm.findClass (am_own own) = some m.cls) (hts : ∀ w ∈ am_WL, w.before args s = true) (ho : own < 12) (hc : am_okc own cc kc = true) (hK : va_K D am_cl (am_tys cT) s) : ar_getf kc (am_Sim p l e R s m args below meth c cells slots Qf ad cT D scr) := by
  intro pc L S σ j x a v h1 h2 k hL hs hS hA H locs ls hP hV hl
  obtain ⟨hd, ha, hn⟩ := am_okc_lk hc h1
  have hw := am_fl_use ho (show am_has (j, x) (am_fl own) = true from ha)
  obtain ⟨-, hS1⟩ := List.forall_mem_cons.mp hS
  unfold am_fget at h2
  split at h2
  next ci hkd =>
    split at h2
    next hcc =>
      rw [Bool.and_eq_true] at hcc
      have hci : ci = x / 100 := Nat.eq_of_beq_eq_true hcc.1
      have hk : x % 100 < am_nf ci := Nat.lt_of_succ_le (by simpa [Nat.blt] using hcc.2)
      cases h2
      have hlt := am_kd_lt hkd (by omega)
      have hci10 : ci < 10 := by have := am_kd_ci a hlt; rw [hkd] at this; exact this rfl
      subst hci
      refine va_get (D := D) (cl := am_cl) (C := am_own (x / 100)) (T := am_T (x / 100)) (N := am_nf (x / 100)) (ci := x / 100) (v := am_tr ad (am_fval σ a (x / 100) (x % 100))) (fs := (List.range (am_nf (x / 100))).map (fun k => am_tr ad (am_fval σ a (x / 100) k))) hx hb hts (am_ws_in hci10) hown hK hP a ?_ (am_ci_all _ hci10) (x % 100) hk (hts _ hw) (fun _ h => h) ?_ hd ?_
      · rw [am_world_at hlt, am_cell_obj hkd]
      · rw [List.getElem?_map, List.getElem?_range hk]
        rfl
      · exact k hL hs (List.forall_mem_cons.mpr ⟨as_fval_ok hs _ _ _, hS1⟩) hA H locs ls hP hV hl
    next => cases h2
  next => cases h2
theorem am_obj_put {σ σ' : am_S} {a ci k : Nat} {w : Value} (h : am_kd a = (6, ci)) (hk : k < am_nf ci) (h1 : am_tr ad (am_fval σ' a ci k) = w) (h2 : ∀ j, j ≠ k → am_fval σ' a ci j = am_fval σ a ci j) : am_cell ad cT σ' a = .inr (ci, ((List.range (am_nf ci)).map (fun k => am_tr ad (am_fval σ a ci k))).set k w) := by
  rw [am_cell_obj h]
  refine congrArg (fun z => (Sum.inr (ci, z) : va_E)) ?_
  apply List.ext_getElem?
  intro i
  by_cases hi : i = k
  · subst hi
    rw [List.getElem?_set_self (by simpa using hk), List.getElem?_map, List.getElem?_range hk]
    show some (am_tr ad (am_fval σ' a ci i)) = some w
    rw [h1]
  · rw [List.getElem?_set_ne (fun q => hi q.symm), List.getElem?_map, List.getElem?_map]
    by_cases hl : i < am_nf ci
    · rw [List.getElem?_range hl]
      show some (am_tr ad (am_fval σ' a ci i)) = some (am_tr ad (am_fval σ a ci i))
      rw [h2 i hi]
    · rw [List.getElem?_eq_none (by rw [List.length_range]; omega)]
      rfl
theorem am_cell_sI {σ : am_S} {a b : Nat} {f : Nat → Int} (h : b ≠ a) : am_cell ad cT (am_sI σ a f) b = am_cell ad cT σ b := by
  have e : (am_sI σ a f).1 b = σ.1 b := am_up_ne h
  unfold am_cell
  rw [e]
  have e2 : ∀ ci k, am_fval (am_sI σ a f) b ci k = am_fval σ b ci k := fun ci k => by
    unfold am_fval
    rw [e]
    rfl
  simp only [e2]
  rfl
theorem am_cell_sL {σ : am_S} {a b : Nat} {f : Nat → Int} (h : b ≠ a) : am_cell ad cT (am_sL σ a f) b = am_cell ad cT σ b := by
  have e : (am_sL σ a f).2.1 b = σ.2.1 b := am_up_ne h
  unfold am_cell
  rw [e]
  have e2 : ∀ ci k, am_fval (am_sL σ a f) b ci k = am_fval σ b ci k := fun ci k => by
    unfold am_fval
    rw [e]
    rfl
  simp only [e2]
  rfl
theorem am_cell_sR {σ : am_S} {a b : Nat} {f : Nat → Option Nat} (h : b ≠ a) : am_cell ad cT (am_sR σ a f) b = am_cell ad cT σ b := by
  have e : (am_sR σ a f).2.2.1 b = σ.2.2.1 b := am_up_ne h
  have e2 : ∀ ci k, am_fval (am_sR σ a f) b ci k = am_fval σ b ci k := fun ci k => by
    unfold am_fval
    rw [e]
    rfl
  unfold am_cell
  simp only [e2]
  rfl
theorem am_oks_sI {σ : am_S} {a : Nat} {f : Nat → Int} (hs : am_oks scr σ) (hf : ∀ k, am_r32 (f k)) : am_oks scr (am_sI σ a f) := by
  refine ⟨fun b k => ?_, hs.2.1, hs.2.2.1, hs.2.2.2⟩
  by_cases h : b = a
  · subst h
    show am_r32 (am_up σ.1 b f b k)
    rw [am_up_same]
    exact hf k
  · show am_r32 (am_up σ.1 a f b k)
    rw [am_up_ne h]
    exact hs.1 b k
theorem am_oks_sL {σ : am_S} {a : Nat} {f : Nat → Int} (hs : am_oks scr σ) (hf : ∀ k, am_r64 (f k)) : am_oks scr (am_sL σ a f) := by
  refine ⟨hs.1, fun b k => ?_, hs.2.2.1, hs.2.2.2⟩
  by_cases h : b = a
  · subst h
    show am_r64 (am_up σ.2.1 b f b k)
    rw [am_up_same]
    exact hf k
  · show am_r64 (am_up σ.2.1 a f b k)
    rw [am_up_ne h]
    exact hs.2.1 b k
theorem am_up_ok {P : Int → Prop} {f : Nat → Int} {k : Nat} {z : Int} (hf : ∀ j, P (f j)) (hz : P z) : ∀ j, P (am_up f k z j) := by
  intro j
  by_cases h : j = k
  · subst h; rw [am_up_same]; exact hz
  · rw [am_up_ne h]; exact hf j
/-- a field is written: what the machine needs of the tables -/
theorem as_put1 (hx : p.tables.exec = Jvm.exec) (hb : c.code = cc) (hown : s.vm.findClass (am_own own) = some m.cls) (hts : ∀ w ∈ am_WL, w.before args s = true) (ho : own < 12) (hK : va_K D am_cl (am_tys cT) s) (hinj : ∀ i j, i < am_NC → j < am_NC → ad i = ad j → i = j) {σ σ' : am_S} {a ci k j pc : Nat} {w : Value} {H : Heap} {locs : List Loc} {ls : Array Slot} {st : List Value} (hkd : am_kd a = (6, ci)) (hk : k < am_nf ci) (hlink : Cond.fieldLink (am_own own) j (am_T ci k).1 (am_T ci k).2.1 (am_T ci k).2.2.1 ∈ am_WL) (hfin : (am_T ci k).2.2.2 = false) (hn : narrow (am_Ty ci k) w = w) (hfit : fits (am_Ty ci k) w = true) (hd : decode cc pc = .ok (.putfield j, 3)) (h1 : am_tr ad (am_fval σ' a ci k) = w) (h2 : ∀ j, j ≠ k → am_fval σ' a ci j = am_fval σ a ci j) (ho2 : ∀ b, b ≠ a → am_cell ad cT σ' b = am_cell ad cT σ b) (hP : va_P D am_cl (am_world ad cT σ) H) (hV : va_S (am_A ad) s.heap H locs)
    (kk : ∀ (H1 : Heap) (locs1 : List Loc), va_P D am_cl (am_world ad cT σ') H1 → va_S (am_A ad) s.heap H1 locs1 → W p l e R s m args below meth c H1 locs1 cells slots Qf (F0 m (pc + 3) ls st)) : W p l e R s m args below meth c H locs cells slots Qf (F0 m pc ls (w :: .ref (ad a) :: st)) := by
  have hlt := am_kd_lt hkd (by omega)
  have hci10 : ci < 10 := by have := am_kd_ci a hlt; rw [hkd] at this; exact this rfl
  refine va_put (D := D) (cl := am_cl) (A := am_A ad) (C := am_own ci) (T := am_T ci) (N := am_nf ci) (ci := ci) (fs := (List.range (am_nf ci)).map (fun k => am_tr ad (am_fval σ a ci k))) hx hb hts (am_ws_in hci10) (am_Ty ci) (am_ty_ok hci10) (am_nm_ok hci10) hown hK hP (am_apart hinj cT σ) hV a (by rw [am_world_at hlt, am_cell_obj hkd]) (am_ci_all _ hci10) k hk (hts _ hlink) (fun _ h => h) hfin (am_ty_ok hci10 k hk) hn hfit (by simpa using hk) hd (fun H1 locs1 hP1 hD1 hV1 => ?_)
  refine kk H1 locs1 ?_ hV1
  rw [am_world_set hlt (am_obj_put hkd hk h1 h2) ho2] at hP1
  exact hP1
theorem as_putf (hx : p.tables.exec = Jvm.exec) (hb : c.code = cc) (hown : s.vm.findClass (am_own own) = some m.cls) (hts : ∀ w ∈ am_WL, w.before args s = true) (ho : own < 12) (hc : am_okc own cc kc = true) (hK : va_K D am_cl (am_tys cT) s) (hinj : ∀ i j, i < am_NC → j < am_NC → ad i = ad j → i = j) : ar_putf kc (am_Sim p l e R s m args below meth c cells slots Qf ad cT D scr) := by
  intro pc L S σ j x a v σ' h1 h2 k hL hs hS hA H locs ls hP hV hl
  obtain ⟨hd, ha, hn⟩ := am_okc_lk hc h1
  have hw := am_fl_use ho (show am_has (j, x) (am_fl own) = true from ha)
  obtain ⟨hv, hS1⟩ := List.forall_mem_cons.mp hS
  obtain ⟨-, hS2⟩ := List.forall_mem_cons.mp hS1
  unfold am_fput at h2
  split at h2
  next ci hkd =>
    split at h2
    next hcc =>
      rw [Bool.and_eq_true] at hcc
      have hci : ci = x / 100 := Nat.eq_of_beq_eq_true hcc.1
      have hk : x % 100 < am_nf ci := Nat.lt_of_succ_le (by simpa [Nat.blt] using hcc.2)
      have hlt := am_kd_lt hkd (by omega)
      have hci10 : ci < 10 := by have := am_kd_ci a hlt; rw [hkd] at this; exact this rfl
      subst hci
      have hfc := am_fchk hci10 hk
      split at h2
      next z hf =>
        cases h2
        unfold am_fck at hfc
        rw [hf] at hfc
        obtain ⟨f1, f2⟩ := hfc
        refine as_put1 (σ' := am_sI σ a (am_up (σ.1 a) (x % 100) z)) hx hb hown hts ho hK hinj hkd hk hw f2 (w := .int (Int32.ofInt z)) (by rw [f1]; rfl) (by rw [f1]; rfl) hd ?_ ?_ (fun b hb => am_cell_sI hb) hP hV (fun H1 locs1 hP1 hV1 => k hL (am_oks_sI hs (am_up_ok (hs.1 a) hv)) hS2 hA H1 locs1 ls hP1 hV1 hl)
        · unfold am_fval
          rw [hf]
          show Value.int (Int32.ofInt (am_up σ.1 a (am_up (σ.1 a) (x % 100) z) a (x % 100))) = _
          rw [am_up_same, am_up_same]
        · intro i hi
          unfold am_fval
          have e : (am_sI σ a (am_up (σ.1 a) (x % 100) z)).1 a i = σ.1 a i := by
            show am_up σ.1 a (am_up (σ.1 a) (x % 100) z) a i = _
            rw [am_up_same, am_up_ne hi]
          rw [e]
          rfl
      next z hf =>
        cases h2
        unfold am_fck at hfc
        rw [hf] at hfc
        obtain ⟨f1, f2⟩ := hfc
        refine as_put1 (σ' := am_sL σ a (am_up (σ.2.1 a) (x % 100) z)) hx hb hown hts ho hK hinj hkd hk hw f2 (w := .long (Int64.ofInt z)) (by rw [f1]; rfl) (by rw [f1]; rfl) hd ?_ ?_ (fun b hb => am_cell_sL hb) hP hV (fun H1 locs1 hP1 hV1 => k hL (am_oks_sL hs (am_up_ok (hs.2.1 a) hv)) hS2 hA H1 locs1 ls hP1 hV1 hl)
        · unfold am_fval
          rw [hf]
          show Value.long (Int64.ofInt (am_up σ.2.1 a (am_up (σ.2.1 a) (x % 100) z) a (x % 100))) = _
          rw [am_up_same, am_up_same]
        · intro i hi
          unfold am_fval
          have e : (am_sL σ a (am_up (σ.2.1 a) (x % 100) z)).2.1 a i = σ.2.1 a i := by
            show am_up σ.2.1 a (am_up (σ.2.1 a) (x % 100) z) a i = _
            rw [am_up_same, am_up_ne hi]
          rw [e]
          rfl
      next r hf =>
        cases h2
        unfold am_fck at hfc
        rw [hf] at hfc
        obtain ⟨⟨nm, f1⟩, f2⟩ := hfc
        refine as_put1 (σ' := am_sR σ a (am_up (σ.2.2.1 a) (x % 100) r)) hx hb hown hts ho hK hinj hkd hk hw f2 (w := am_tr ad (am_q r)) (by rw [f1]; rcases r with _ | q <;> rfl) (by rw [f1]; rcases r with _ | q <;> rfl) hd ?_ ?_ (fun b hb => am_cell_sR hb) hP hV (fun H1 locs1 hP1 hV1 => k hL hs hS2 hA H1 locs1 ls hP1 hV1 hl)
        · unfold am_fval
          rw [hf]
          show am_tr ad (am_q (am_up σ.2.2.1 a (am_up (σ.2.2.1 a) (x % 100) r) a (x % 100))) = _
          rw [am_up_same, am_up_same]
        · intro i hi
          unfold am_fval
          have e : (am_sR σ a (am_up (σ.2.2.1 a) (x % 100) r)).2.2.1 a i = σ.2.2.1 a i := by
            show am_up σ.2.2.1 a (am_up (σ.2.2.1 a) (x % 100) r) a i = _
            rw [am_up_same, am_up_ne hi]
          rw [e]
          rfl
      next => cases h2
    next => cases h2
  next => cases h2
theorem as_putz (hx : p.tables.exec = Jvm.exec) (hb : c.code = cc) (hown : s.vm.findClass (am_own own) = some m.cls) (hts : ∀ w ∈ am_WL, w.before args s = true) (ho : own < 12) (hc : am_okc own cc kc = true) (hK : va_K D am_cl (am_tys cT) s) (hinj : ∀ i j, i < am_NC → j < am_NC → ad i = ad j → i = j) : ar_putz kc (am_Sim p l e R s m args below meth c cells slots Qf ad cT D scr) := by
  intro pc L S σ j x a z σ' h1 h2 hz k hL hs hS hA H locs ls hP hV hl
  obtain ⟨hd, ha, hn⟩ := am_okc_lk hc h1
  have hw := am_fl_use ho (show am_has (j, x) (am_fl own) = true from ha)
  obtain ⟨hv, hS1⟩ := List.forall_mem_cons.mp hS
  obtain ⟨-, hS2⟩ := List.forall_mem_cons.mp hS1
  unfold am_fputZ at h2
  split at h2
  next ci hkd =>
    split at h2
    next hcc =>
      rw [Bool.and_eq_true] at hcc
      have hci : ci = x / 100 := Nat.eq_of_beq_eq_true hcc.1
      have hk : x % 100 < am_nf ci := Nat.lt_of_succ_le (by simpa [Nat.blt] using hcc.2)
      have hlt := am_kd_lt hkd (by omega)
      have hci10 : ci < 10 := by have := am_kd_ci a hlt; rw [hkd] at this; exact this rfl
      subst hci
      have hfc := am_fchk hci10 hk
      split at h2
      next hf =>
        cases h2
        unfold am_fck at hfc
        rw [hf] at hfc
        obtain ⟨f1, f2⟩ := hfc
        refine as_put1 (σ' := am_sI σ a (am_up (σ.1 a) (x % 100) z)) hx hb hown hts ho hK hinj hkd hk hw f2 (w := .int (Int32.ofInt z)) (by rw [f1]; rcases hz with rfl | rfl <;> rfl) (by rw [f1]; rcases hz with rfl | rfl <;> rfl) hd ?_ ?_ (fun b hb => am_cell_sI hb) hP hV (fun H1 locs1 hP1 hV1 => k hL (am_oks_sI hs (am_up_ok (hs.1 a) hv)) hS2 hA H1 locs1 ls hP1 hV1 hl)
        · unfold am_fval
          rw [hf]
          show Value.int (Int32.ofInt (am_up σ.1 a (am_up (σ.1 a) (x % 100) z) a (x % 100))) = _
          rw [am_up_same, am_up_same]
        · intro i hi
          unfold am_fval
          have e : (am_sI σ a (am_up (σ.1 a) (x % 100) z)).1 a i = σ.1 a i := by
            show am_up σ.1 a (am_up (σ.1 a) (x % 100) z) a i = _
            rw [am_up_same, am_up_ne hi]
          rw [e]
          rfl
      next => cases h2
    next => cases h2
  next => cases h2
theorem am_cell_0 {σ : am_S} {a n : Nat} (h : am_kd a = (0, n)) : am_cell ad cT σ a = .inl (cT 0, n, .inl (fun j => Int32.ofInt (σ.1 a j))) := by
  unfold am_cell
  rw [h]
  rfl
theorem am_cell_1 {σ : am_S} {a n : Nat} (h : am_kd a = (1, n)) : am_cell ad cT σ a = .inl (cT 1, n, .inl (fun j => Int32.ofInt (σ.1 a j))) := by
  unfold am_cell
  rw [h]
  rfl
theorem am_cell_2 {σ : am_S} {a n : Nat} (h : am_kd a = (2, n)) : am_cell ad cT σ a = .inl (cT 2, n, .inl (fun j => Int32.ofInt (σ.1 a j))) := by
  unfold am_cell
  rw [h]
  rfl
theorem am_cell_3 {σ : am_S} {a n : Nat} (h : am_kd a = (3, n)) : am_cell ad cT σ a = .inl (cT 3, n, .inr (.inl (fun j => Int64.ofInt (σ.2.1 a j)))) := by
  unfold am_cell
  rw [h]
  rfl
theorem am_cell_4 {σ : am_S} {a n : Nat} (h : am_kd a = (4, n)) : am_cell ad cT σ a = .inl (cT 4, n, .inr (.inr (.inr (.inr (fun j => some (ad (a + 1 + j))))))) := by
  unfold am_cell
  rw [h]
  rfl
theorem am_cell_5 {σ : am_S} {a n : Nat} (h : am_kd a = (5, n)) : am_cell ad cT σ a = .inl (cT 5, n, .inr (.inr (.inr (.inr (fun j => some (ad (a + 1 + j))))))) := by
  unfold am_cell
  rw [h]
  rfl
theorem as_iald (hx : p.tables.exec = Jvm.exec) (hb : c.code = cc) (hc : am_okc own cc kc = true) (hK : va_K D am_cl (am_tys cT) s) : ar_iald kc (am_Sim p l e R s m args below meth c cells slots Qf ad cT D scr) := by
  intro pc L S σ x a n j h1 h2 h3 h4 k hL hs hS hA H locs ls hP hV hl
  obtain ⟨hd, ha, hn⟩ := am_okc_lk hc h1
  obtain ⟨hj, hS1⟩ := List.forall_mem_cons.mp hS
  obtain ⟨-, hS2⟩ := List.forall_mem_cons.mp hS1
  refine va_iald hx hb hK hP a 0 (by rw [am_world_at (am_kd_lt h2 (by omega)), am_cell_0 h2]) rfl (am_vin hj h3 h4) hd ?_
  rw [am_clamp hj]
  exact k hL hs (List.forall_mem_cons.mpr ⟨hs.1 _ _, hS2⟩) hA H locs ls hP hV hl
theorem as_bald (hx : p.tables.exec = Jvm.exec) (hb : c.code = cc) (hc : am_okc own cc kc = true) (hK : va_K D am_cl (am_tys cT) s) : ar_bald kc (am_Sim p l e R s m args below meth c cells slots Qf ad cT D scr) := by
  intro pc L S σ x a n j h1 h2 h3 h4 k hL hs hS hA H locs ls hP hV hl
  obtain ⟨hd, ha, hn⟩ := am_okc_lk hc h1
  obtain ⟨hj, hS1⟩ := List.forall_mem_cons.mp hS
  obtain ⟨-, hS2⟩ := List.forall_mem_cons.mp hS1
  have go := k hL hs (List.forall_mem_cons.mpr ⟨hs.1 _ _, hS2⟩) hA H locs ls hP hV hl
  rcases h2 with h2 | h2
  · refine va_bald hx hb hK hP a 1 (by rw [am_world_at (am_kd_lt h2 (by omega)), am_cell_1 h2]) rfl (am_vin hj h3 h4) hd ?_
    rw [am_clamp hj]
    exact go
  · refine va_zald hx hb hK hP a 2 (by rw [am_world_at (am_kd_lt h2 (by omega)), am_cell_2 h2]) rfl (am_vin hj h3 h4) hd ?_
    rw [am_clamp hj]
    exact go
theorem as_lald (hx : p.tables.exec = Jvm.exec) (hb : c.code = cc) (hc : am_okc own cc kc = true) (hK : va_K D am_cl (am_tys cT) s) : ar_lald kc (am_Sim p l e R s m args below meth c cells slots Qf ad cT D scr) := by
  intro pc L S σ x a n j h1 h2 h3 h4 k hL hs hS hA H locs ls hP hV hl
  obtain ⟨hd, ha, hn⟩ := am_okc_lk hc h1
  obtain ⟨hj, hS1⟩ := List.forall_mem_cons.mp hS
  obtain ⟨-, hS2⟩ := List.forall_mem_cons.mp hS1
  refine va_lald hx hb hK hP a 3 (by rw [am_world_at (am_kd_lt h2 (by omega)), am_cell_3 h2]) rfl (am_vin hj h3 h4) hd ?_
  rw [am_clamp hj]
  exact k hL hs (List.forall_mem_cons.mpr ⟨hs.2.1 _ _, hS2⟩) hA H locs ls hP hV hl
theorem as_aald (hx : p.tables.exec = Jvm.exec) (hb : c.code = cc) (hc : am_okc own cc kc = true) (hK : va_K D am_cl (am_tys cT) s) : ar_aald kc (am_Sim p l e R s m args below meth c cells slots Qf ad cT D scr) := by
  intro pc L S σ x a n j h1 h2 h3 h4 k hL hs hS hA H locs ls hP hV hl
  obtain ⟨hd, ha, hn⟩ := am_okc_lk hc h1
  obtain ⟨hj, hS1⟩ := List.forall_mem_cons.mp hS
  obtain ⟨-, hS2⟩ := List.forall_mem_cons.mp hS1
  have go := k hL hs (List.forall_mem_cons.mpr ⟨trivial, hS2⟩) hA H locs ls hP hV hl
  have key : ∀ (t : Nat) (ty : FieldType), (am_world ad cT σ)[a]? = some (ad a, .inl (cT t, n, .inr (.inr (.inr (.inr (fun j => some (ad (a + 1 + j)))))))) → (am_tys cT)[t]? = some (cT t, ty) → ty.isReference = true → W p l e R s m args below meth c H locs cells slots Qf (F0 m pc ls (.int (Int32.ofInt j) :: .ref (ad a) :: S.map (am_tr ad))) := by
    intro t ty hw ht hr
    have hin := am_vin (n := n) hj h3 h4
    have hlt : (Int32.ofInt j).toNatClampNeg < n := Nat.not_le.mp fun q => hin (Or.inr q)
    refine W.aald (v := .ref (ad (a + 1 + j.toNat))) (ty := ty) hx hb (hP a _ hw) ((hK.2 t _ ht).1 n (fun j => .ref (ad (a + 1 + j)))) hr (fun q => by cases q) (by show ¬ (_ < 0 ∨ (arrV _ _ _).slots.size ≤ _); rw [arrV_size]; exact hin) (by show (arrV _ _ _).slots[_]? = _; rw [arrV_read _ _ hlt, am_clamp hj]; rfl) rfl rfl hd ?_
    exact go
  rcases h2 with h2 | h2
  · exact key 4 _ (by rw [am_world_at (am_kd_lt h2 (by omega)), am_cell_4 h2]) rfl rfl
  · exact key 5 _ (by rw [am_world_at (am_kd_lt h2 (by omega)), am_cell_5 h2]) rfl rfl
theorem as_iast (hx : p.tables.exec = Jvm.exec) (hb : c.code = cc) (hc : am_okc own cc kc = true) (hK : va_K D am_cl (am_tys cT) s) (hinj : ∀ i j, i < am_NC → j < am_NC → ad i = ad j → i = j) : ar_iast kc (am_Sim p l e R s m args below meth c cells slots Qf ad cT D scr) := by
  intro pc L S σ x a n j z h1 h2 h3 h4 k hL hs hS hA H locs ls hP hV hl
  obtain ⟨hd, ha, hn⟩ := am_okc_lk hc h1
  obtain ⟨hz, hS0⟩ := List.forall_mem_cons.mp hS
  obtain ⟨hj, hS1⟩ := List.forall_mem_cons.mp hS0
  obtain ⟨-, hS2⟩ := List.forall_mem_cons.mp hS1
  have hlt := am_kd_lt h2 (by omega)
  refine va_iast hx hb hK hP (am_apart hinj cT σ) hV a 0 (by rw [am_world_at hlt, am_cell_0 h2]) rfl (am_vin hj h3 h4) hd (fun H1 locs1 hP1 hD1 hV1 => ?_)
  rw [am_clamp hj, ← am_up_of, am_world_set (σ' := am_sI σ a (am_up (σ.1 a) j.toNat z)) hlt (by rw [am_cell_0 h2]; show (Sum.inl (cT 0, n, Sum.inl (fun i => Int32.ofInt (am_up σ.1 a (am_up (σ.1 a) j.toNat z) a i))) : va_E) = _; rw [am_up_same]) (fun b hb => am_cell_sI hb)] at hP1
  exact k hL (am_oks_sI hs (am_up_ok (hs.1 a) hz)) hS2 hA H1 locs1 ls hP1 hV1 hl
theorem as_bast (hx : p.tables.exec = Jvm.exec) (hb : c.code = cc) (hc : am_okc own cc kc = true) (hK : va_K D am_cl (am_tys cT) s) (hinj : ∀ i j, i < am_NC → j < am_NC → ad i = ad j → i = j) : ar_bast kc (am_Sim p l e R s m args below meth c cells slots Qf ad cT D scr) := by
  intro pc L S σ x a n j z h1 h2 h3 h4 k hL hs hS hA H locs ls hP hV hl
  obtain ⟨hd, ha, hn⟩ := am_okc_lk hc h1
  obtain ⟨hz, hS0⟩ := List.forall_mem_cons.mp hS
  obtain ⟨hj, hS1⟩ := List.forall_mem_cons.mp hS0
  obtain ⟨-, hS2⟩ := List.forall_mem_cons.mp hS1
  have hlt := am_kd_lt h2 (by omega)
  refine va_bast hx hb hK hP (am_apart hinj cT σ) hV a 1 (by rw [am_world_at hlt, am_cell_1 h2]) rfl (am_vin hj h3 h4) hd (fun H1 locs1 hP1 hD1 hV1 => ?_)
  rw [am_clamp hj, show vp_nar .byte (Int32.ofInt z) = Int32.ofInt (am_w8 z) by rw [vp_nar_byte]; unfold am_w8; rw [Int32.ofInt_toInt], ← am_up_of, am_world_set (σ' := am_sI σ a (am_up (σ.1 a) j.toNat (am_w8 z))) hlt (by rw [am_cell_1 h2]; show (Sum.inl (cT 1, n, Sum.inl (fun i => Int32.ofInt (am_up σ.1 a (am_up (σ.1 a) j.toNat (am_w8 z)) a i))) : va_E) = _; rw [am_up_same]) (fun b hb => am_cell_sI hb)] at hP1
  exact k hL (am_oks_sI hs (am_up_ok (hs.1 a) (am_rI _))) hS2 hA H1 locs1 ls hP1 hV1 hl
theorem as_zast (hx : p.tables.exec = Jvm.exec) (hb : c.code = cc) (hc : am_okc own cc kc = true) (hK : va_K D am_cl (am_tys cT) s) (hinj : ∀ i j, i < am_NC → j < am_NC → ad i = ad j → i = j) : ar_zast kc (am_Sim p l e R s m args below meth c cells slots Qf ad cT D scr) := by
  intro pc L S σ x a n j z h1 h2 h3 h4 hz01 k hL hs hS hA H locs ls hP hV hl
  obtain ⟨hd, ha, hn⟩ := am_okc_lk hc h1
  obtain ⟨hz, hS0⟩ := List.forall_mem_cons.mp hS
  obtain ⟨hj, hS1⟩ := List.forall_mem_cons.mp hS0
  obtain ⟨-, hS2⟩ := List.forall_mem_cons.mp hS1
  have hlt := am_kd_lt h2 (by omega)
  refine va_zast hx hb hK hP (am_apart hinj cT σ) hV a 2 (by rw [am_world_at hlt, am_cell_2 h2]) rfl (am_vin hj h3 h4) hd (fun H1 locs1 hP1 hD1 hV1 => ?_)
  rw [am_clamp hj, show vp_nar .boolean (Int32.ofInt z) = Int32.ofInt z by rcases hz01 with rfl | rfl <;> rfl, ← am_up_of, am_world_set (σ' := am_sI σ a (am_up (σ.1 a) j.toNat z)) hlt (by rw [am_cell_2 h2]; show (Sum.inl (cT 2, n, Sum.inl (fun i => Int32.ofInt (am_up σ.1 a (am_up (σ.1 a) j.toNat z) a i))) : va_E) = _; rw [am_up_same]) (fun b hb => am_cell_sI hb)] at hP1
  exact k hL (am_oks_sI hs (am_up_ok (hs.1 a) hz)) hS2 hA H1 locs1 ls hP1 hV1 hl
theorem as_last (hx : p.tables.exec = Jvm.exec) (hb : c.code = cc) (hc : am_okc own cc kc = true) (hK : va_K D am_cl (am_tys cT) s) (hinj : ∀ i j, i < am_NC → j < am_NC → ad i = ad j → i = j) : ar_last kc (am_Sim p l e R s m args below meth c cells slots Qf ad cT D scr) := by
  intro pc L S σ x a n j z h1 h2 h3 h4 k hL hs hS hA H locs ls hP hV hl
  obtain ⟨hd, ha, hn⟩ := am_okc_lk hc h1
  obtain ⟨hz, hS0⟩ := List.forall_mem_cons.mp hS
  obtain ⟨hj, hS1⟩ := List.forall_mem_cons.mp hS0
  obtain ⟨-, hS2⟩ := List.forall_mem_cons.mp hS1
  have hlt := am_kd_lt h2 (by omega)
  refine va_last hx hb hK hP (am_apart hinj cT σ) hV a 3 (by rw [am_world_at hlt, am_cell_3 h2]) rfl (am_vin hj h3 h4) hd (fun H1 locs1 hP1 hD1 hV1 => ?_)
  rw [am_clamp hj, ← am_upL_of, am_world_set (σ' := am_sL σ a (am_up (σ.2.1 a) j.toNat z)) hlt (by rw [am_cell_3 h2]; show (Sum.inl (cT 3, n, Sum.inr (Sum.inl (fun i => Int64.ofInt (am_up σ.2.1 a (am_up (σ.2.1 a) j.toNat z) a i)))) : va_E) = _; rw [am_up_same]) (fun b hb => am_cell_sL hb)] at hP1
  exact k hL (am_oks_sL hs (am_up_ok (hs.2.1 a) hz)) hS2 hA H1 locs1 ls hP1 hV1 hl
theorem as_alen (hx : p.tables.exec = Jvm.exec) (hb : c.code = cc) (hc : am_okc own cc kc = true) (hK : va_K D am_cl (am_tys cT) s) : ar_alen kc (am_Sim p l e R s m args below meth c cells slots Qf ad cT D scr) := by
  intro pc L S σ x a t n h1 h2 h3 k hL hs hS hA H locs ls hP hV hl
  obtain ⟨hd, ha, hn⟩ := am_okc_lk hc h1
  obtain ⟨-, hS1⟩ := List.forall_mem_cons.mp hS
  have hlt := am_kd_lt h2 (by omega)
  have hsz := am_kd_sz a hlt
  rw [h2] at hsz
  have go := k hL hs (List.forall_mem_cons.mpr ⟨⟨by omega, by have : n < 3000 := hsz; omega⟩, hS1⟩) hA H locs ls hP hV hl
  have key : ∀ (q : Nat) (r : _) (ty : FieldType), (am_world ad cT σ)[a]? = some (ad a, .inl (cT q, n, r)) → (am_tys cT)[q]? = some (cT q, ty) → W p l e R s m args below meth c H locs cells slots Qf (F0 m pc ls (.ref (ad a) :: S.map (am_tr ad))) := fun q r ty hw ht => va_alen hx hb hK hP a q hw ht rfl hd go
  match t, h2, h3 with
  | 0, h2, _ => exact key 0 _ _ (by rw [am_world_at hlt, am_cell_0 h2]) rfl
  | 1, h2, _ => exact key 1 _ _ (by rw [am_world_at hlt, am_cell_1 h2]) rfl
  | 2, h2, _ => exact key 2 _ _ (by rw [am_world_at hlt, am_cell_2 h2]) rfl
  | 3, h2, _ => exact key 3 _ _ (by rw [am_world_at hlt, am_cell_3 h2]) rfl
  | 4, h2, _ => exact key 4 _ _ (by rw [am_world_at hlt, am_cell_4 h2]) rfl
  | 5, h2, _ => exact key 5 _ _ (by rw [am_world_at hlt, am_cell_5 h2]) rfl
  | _ + 6, _, h3 => exact absurd h3 (by omega)
end AS
