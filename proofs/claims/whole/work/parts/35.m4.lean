theorem l_isUndone {d : Nat} (hd : 0 ≤ d) {σ : am_S} {T : sp_T} (hT : TM_ T σ) (hV : TV_ T) {b : Int} {v : sp_V} (ha : σ.1 164 = v) (hW : VV_ T b v) {o : Nat} (ho : o < nO_ T) {Q : Option am_V → am_S → Prop} (hQ : Q (some (am_I (if ud_ T v o then 1 else 0))) σ) : ∀ (m k : Nat), k + m = nO_ T → aW d 1 k_X9_isUndone Q 4 [some (am_R 135), some (am_I ((o : Nat) : Int)), some (am_I (if an_ k (fun u => tb_ (T 156 u) o && tb_ (v 48) u) then 1 else 0)), some (am_I ((k : Nat) : Int))] [] σ := by
  have hw := hW.2.1
  have hn := hV.nO
  intro m
  induction m with
  | zero =>
    intro k hk
    obtain rfl : k = nO_ T := by omega
    refine ax_load (q := 5) rfl rfl rfl rfl rfl ?_
    refine ax_load (q := 6) rfl rfl rfl rfl rfl ?_
    refine ax_getf (q := 9) (v := am_I ((nO_ T : Nat) : Int)) rfl rfl (am_fg rfl (hT.s51.trans hV.nO.1)) ?_
    refine ax_icmp_ge (q := 12) (x := 57) rfl rfl (fun h9 => ?_) (fun h => absurd h (by omega))
    refine ax_load (q := 58) rfl rfl rfl rfl rfl ?_
    refine ax_ret (r := some (am_I (if an_ (nO_ T) (fun u => tb_ (T 156 u) o && tb_ (v 48) u) then 1 else 0))) rfl ⟨rfl, by split <;> simp⟩ ?_
    exact hQ
  | succ m ih =>
    intro k hk
    have hu := hV.ud (o := k) (by omega)
    refine ax_load (q := 5) rfl rfl rfl rfl rfl ?_
    refine ax_load (q := 6) rfl rfl rfl rfl rfl ?_
    refine ax_getf (q := 9) (v := am_I ((nO_ T : Nat) : Int)) rfl rfl (am_fg rfl (hT.s51.trans hV.nO.1)) ?_
    refine ax_icmp_ge (q := 12) (x := 57) rfl rfl (fun h => absurd h (by omega)) (fun h9 => ?_)
    refine ax_load (q := 13) rfl rfl rfl rfl rfl ?_
    refine ax_if_ne (q := 16) (x := 45) rfl rfl (fun h13 => ?_) (fun h13 => ?_)
    · have hb13 := it_n0 h13
      refine ax_const (q := 46) (v := am_I 1) rfl rfl rfl ?_
      refine ax_goto (x := 50) rfl ?_
      refine ax_store (q := 51) (L' := [some (am_R 135), some (am_I ((o : Nat) : Int)), some (am_I 1), some (am_I ((k : Nat) : Int))]) rfl rfl rfl rfl rfl rfl ?_
      refine ax_iinc (q := 54) (z' := ((k + 1 : Nat) : Int)) (L' := [some (am_R 135), some (am_I ((o : Nat) : Int)), some (am_I 1), some (am_I ((k + 1 : Nat) : Int))]) rfl rfl rfl rfl (am_we (by omega) (by omega) (by omega)) rfl ?_
      refine ax_goto (x := 4) rfl ?_
      have e : an_ (k + 1) (fun u => tb_ (T 156 u) o && tb_ (v 48) u) = true := by show (an_ k _ || _) = _; simp [*]
      have g := ih (k + 1) (by omega)
      rw [e] at g
      exact g
    · have hb13 := it_0 h13
      refine ax_load (q := 17) rfl rfl rfl rfl rfl ?_
      refine ax_getf (q := 20) (v := am_R 156) rfl rfl (rfl) ?_
      refine ax_load (q := 21) rfl rfl rfl rfl rfl ?_
      refine bx_iald (q := 22) (k := k) (z := (((T 156 k).toNat : Nat) : Int)) rfl rfl (rfl) (by omega) (by omega) ((congrFun hT.a156 _).trans (by omega)) ?_
      refine ax_load (q := 23) rfl rfl rfl rfl rfl ?_
      refine ax_ishr (q := 24) (z := am_shr (((T 156 k).toNat : Nat) : Int) ((o : Nat) : Int)) rfl rfl (rfl) ?_
      refine ax_const (q := 25) (v := am_I 1) rfl rfl rfl ?_
      refine ax_iand (q := 26) (z := if tb_ (T 156 k) o then 1 else 0) rfl rfl (am_bit (by omega) (by omega)) ?_
      refine ax_const (q := 27) (v := am_I 1) rfl rfl rfl ?_
      refine ax_icmp_ne (q := 30) (x := 49) rfl rfl (fun h27 => ?_) (fun h27 => ?_)
      · have hb27 := it_n1 h27
        refine ax_const (q := 50) (v := am_I 0) rfl rfl rfl ?_
        refine ax_store (q := 51) (L' := [some (am_R 135), some (am_I ((o : Nat) : Int)), some (am_I 0), some (am_I ((k : Nat) : Int))]) rfl rfl rfl rfl rfl rfl ?_
        refine ax_iinc (q := 54) (z' := ((k + 1 : Nat) : Int)) (L' := [some (am_R 135), some (am_I ((o : Nat) : Int)), some (am_I 0), some (am_I ((k + 1 : Nat) : Int))]) rfl rfl rfl rfl (am_we (by omega) (by omega) (by omega)) rfl ?_
        refine ax_goto (x := 4) rfl ?_
        have e : an_ (k + 1) (fun u => tb_ (T 156 u) o && tb_ (v 48) u) = false := by show (an_ k _ || _) = _; simp [*]
        have g := ih (k + 1) (by omega)
        rw [e] at g
        exact g
      · have hb27 := it_1 h27
        refine ax_load (q := 31) rfl rfl rfl rfl rfl ?_
        refine ax_getf (q := 34) (v := am_R 164) rfl rfl (rfl) ?_
        refine ax_const (q := 36) (v := am_I 48) rfl rfl rfl ?_
        refine bx_iald (q := 37) (k := 48) (z := (((v 48).toNat : Nat) : Int)) rfl rfl (rfl) (by omega) (by omega) ((congrFun ha _).trans (by omega)) ?_
        refine ax_load (q := 38) rfl rfl rfl rfl rfl ?_
        refine ax_ishr (q := 39) (z := am_shr (((v 48).toNat : Nat) : Int) ((k : Nat) : Int)) rfl rfl (rfl) ?_
        refine ax_const (q := 40) (v := am_I 1) rfl rfl rfl ?_
        refine ax_iand (q := 41) (z := if tb_ (v 48) k then 1 else 0) rfl rfl (am_bit (by omega) (by omega)) ?_
        refine ax_const (q := 42) (v := am_I 1) rfl rfl rfl ?_
        refine ax_icmp_ne (q := 45) (x := 49) rfl rfl (fun h42 => ?_) (fun h42 => ?_)
        · have hb42 := it_n1 h42
          refine ax_const (q := 50) (v := am_I 0) rfl rfl rfl ?_
          refine ax_store (q := 51) (L' := [some (am_R 135), some (am_I ((o : Nat) : Int)), some (am_I 0), some (am_I ((k : Nat) : Int))]) rfl rfl rfl rfl rfl rfl ?_
          refine ax_iinc (q := 54) (z' := ((k + 1 : Nat) : Int)) (L' := [some (am_R 135), some (am_I ((o : Nat) : Int)), some (am_I 0), some (am_I ((k + 1 : Nat) : Int))]) rfl rfl rfl rfl (am_we (by omega) (by omega) (by omega)) rfl ?_
          refine ax_goto (x := 4) rfl ?_
          have e : an_ (k + 1) (fun u => tb_ (T 156 u) o && tb_ (v 48) u) = false := by show (an_ k _ || _) = _; simp [*]
          have g := ih (k + 1) (by omega)
          rw [e] at g
          exact g
        · have hb42 := it_1 h42
          refine ax_const (q := 46) (v := am_I 1) rfl rfl rfl ?_
          refine ax_goto (x := 50) rfl ?_
          refine ax_store (q := 51) (L' := [some (am_R 135), some (am_I ((o : Nat) : Int)), some (am_I 1), some (am_I ((k : Nat) : Int))]) rfl rfl rfl rfl rfl rfl ?_
          refine ax_iinc (q := 54) (z' := ((k + 1 : Nat) : Int)) (L' := [some (am_R 135), some (am_I ((o : Nat) : Int)), some (am_I 1), some (am_I ((k + 1 : Nat) : Int))]) rfl rfl rfl rfl (am_we (by omega) (by omega) (by omega)) rfl ?_
          refine ax_goto (x := 4) rfl ?_
          have e : an_ (k + 1) (fun u => tb_ (T 156 u) o && tb_ (v 48) u) = true := by show (an_ k _ || _) = _; simp [*]
          have g := ih (k + 1) (by omega)
          rw [e] at g
          exact g

theorem m_isUndone {d : Nat} (hd : 1 ≤ d) {σ : am_S} {T : sp_T} (hT : TM_ T σ) (hV : TV_ T) {b : Int} {v : sp_V} (ha : σ.1 164 = v) (hW : VV_ T b v) {o : Nat} (ho : o < nO_ T) {Q : Option am_V → am_S → Prop} (hQ : Q (some (am_I (if ud_ T v o then 1 else 0))) σ) : am_Ev d 195 [am_R 135, am_I ((o : Nat) : Int)] σ Q := by
  obtain ⟨d, rfl⟩ : ∃ e, d = e + 1 := ⟨d - 1, by omega⟩
  refine ev_in (m := 195) (c := k_X9_isUndone) (L := [some (am_R 135), some (am_I ((o : Nat) : Int)), none, none]) rfl rfl rfl rfl rfl rfl ?_
  refine ax_const (q := 1) (v := am_I 0) rfl rfl rfl ?_
  refine ax_store (q := 2) (L' := [some (am_R 135), some (am_I ((o : Nat) : Int)), some (am_I 0), none]) rfl rfl rfl rfl rfl rfl ?_
  refine ax_const (q := 3) (v := am_I 0) rfl rfl rfl ?_
  refine ax_store (q := 4) (L' := [some (am_R 135), some (am_I ((o : Nat) : Int)), some (am_I 0), some (am_I 0)]) rfl rfl rfl rfl rfl rfl ?_
  exact l_isUndone (by omega) hT hV ha hW ho hQ (nO_ T) 0 (by omega)

theorem m_openOf {d : Nat} (hd : 3 ≤ d) {σ : am_S} {T : sp_T} (hT : TM_ T σ) (hV : TV_ T) {b : Int} {v : sp_V} (ha : σ.1 164 = v) (hW : VV_ T b v) {p : Nat} (hp : p < nP_ T) {Q : Option am_V → am_S → Prop} (hQ : Q none (am_sI σ 164 (op_ T v p))) : am_Ev d 196 [am_R 135, am_I ((p : Nat) : Int)] σ Q := by
  obtain ⟨d, rfl⟩ : ∃ e, d = e + 1 := ⟨d - 1, by omega⟩
  have h6 := hV.nP
  have hO := hV.nO
  have hw := (hW.2.2 p hp).2.1
  have h48 := hW.2.1
  have hh : v (6 + p) < 0 ∨ ∃ o : Nat, v (6 + p) = (o : Int) ∧ o < nO_ T := by
    by_cases q : v (6 + p) < 0
    · exact Or.inl q
    · exact Or.inr ⟨(v (6 + p)).toNat, by omega, by omega⟩
  refine ev_in (m := 196) (c := k_X9_openOf) (L := [some (am_R 135), some (am_I ((p : Nat) : Int)), none]) rfl rfl rfl rfl rfl rfl ?_
  rcases hh with hh | ⟨o, ho, hon⟩

  · refine ax_load (q := 1) rfl rfl rfl rfl rfl ?_
    refine ax_getf (q := 4) (v := am_R 164) rfl rfl (rfl) ?_
    refine ax_const (q := 6) (v := am_I 6) rfl rfl rfl ?_
    refine ax_load (q := 7) rfl rfl rfl rfl rfl ?_
    refine ax_iadd (q := 8) (z := ((6 + p : Nat) : Int)) rfl rfl (am_we (by omega) (by omega) (by omega)) ?_
    refine bx_iald (q := 9) (k := 6 + p) (z := v (6 + p)) rfl rfl (rfl) (by omega) (by omega) (congrFun ha _) ?_
    refine ax_store (q := 10) (L' := [some (am_R 135), some (am_I ((p : Nat) : Int)), some (am_I (v (6 + p)))]) rfl rfl rfl rfl rfl rfl ?_
    refine ax_load (q := 11) rfl rfl rfl rfl rfl ?_
    refine ax_getf (q := 14) (v := am_R 164) rfl rfl (rfl) ?_
    refine ax_const (q := 16) (v := am_I 12) rfl rfl rfl ?_
    refine ax_load (q := 17) rfl rfl rfl rfl rfl ?_
    refine ax_iadd (q := 18) (z := ((12 + p : Nat) : Int)) rfl rfl (am_we (by omega) (by omega) (by omega)) ?_
    refine ax_load (q := 19) rfl rfl rfl rfl rfl ?_
    refine ax_if_ge (q := 22) (x := 26) rfl rfl (fun h => absurd h (by omega)) (fun h19 => ?_)
    refine ax_const (q := 23) (v := am_I 4) rfl rfl rfl ?_
    refine ax_goto (x := 48) rfl ?_
    refine bx_iast (q := 49) (k := 12 + p) rfl rfl (rfl) (by omega) (by omega) ?_
    refine ax_load (q := 50) rfl rfl rfl rfl rfl ?_
    refine ax_getf (q := 53) (v := am_R 164) rfl rfl (rfl) ?_
    refine ax_const (q := 55) (v := am_I 12) rfl rfl rfl ?_
    refine ax_load (q := 56) rfl rfl rfl rfl rfl ?_
    refine ax_iadd (q := 57) (z := ((12 + p : Nat) : Int)) rfl rfl (am_we (by omega) (by omega) (by omega)) ?_
    refine bx_iald (q := 58) (k := 12 + p) (z := 4) rfl rfl (rfl) (by omega) (by omega) (by rw [sI_at, am_up_same]) ?_
    refine ax_const (q := 59) (v := am_I 2) rfl rfl rfl ?_
    refine ax_icmp_ne (q := 62) (x := 75) rfl rfl (fun h59 => ?_) (fun h => absurd h (by decide))
    refine ax_ret (r := none) rfl rfl ?_
    have e : op_ T v p = am_up v (12 + p) 4 := by unfold op_; rw [if_pos hh]
    rw [e] at hQ
    rw [ha]
    exact hQ
  · refine ax_load (q := 1) rfl rfl rfl rfl rfl ?_
    refine ax_getf (q := 4) (v := am_R 164) rfl rfl (rfl) ?_
    refine ax_const (q := 6) (v := am_I 6) rfl rfl rfl ?_
    refine ax_load (q := 7) rfl rfl rfl rfl rfl ?_
    refine ax_iadd (q := 8) (z := ((6 + p : Nat) : Int)) rfl rfl (am_we (by omega) (by omega) (by omega)) ?_
    refine bx_iald (q := 9) (k := 6 + p) (z := ((o : Nat) : Int)) rfl rfl (rfl) (by omega) (by omega) ((congrFun ha _).trans ho) ?_
    refine ax_store (q := 10) (L' := [some (am_R 135), some (am_I ((p : Nat) : Int)), some (am_I ((o : Nat) : Int))]) rfl rfl rfl rfl rfl rfl ?_
    refine ax_load (q := 11) rfl rfl rfl rfl rfl ?_
    refine ax_getf (q := 14) (v := am_R 164) rfl rfl (rfl) ?_
    refine ax_const (q := 16) (v := am_I 12) rfl rfl rfl ?_
    refine ax_load (q := 17) rfl rfl rfl rfl rfl ?_
    refine ax_iadd (q := 18) (z := ((12 + p : Nat) : Int)) rfl rfl (am_we (by omega) (by omega) (by omega)) ?_
    refine ax_load (q := 19) rfl rfl rfl rfl rfl ?_
    refine ax_if_ge (q := 22) (x := 26) rfl rfl (fun h19 => ?_) (fun h => absurd h (by omega))
    refine ax_load (q := 27) rfl rfl rfl rfl rfl ?_
    refine ax_load (q := 28) rfl rfl rfl rfl rfl ?_
    refine ax_load (q := 29) rfl rfl rfl rfl rfl ?_
    refine ax_callv (q := 32) rfl rfl rfl rfl rfl rfl ?_
    refine m_can (by omega) hT hV ha (by omega) hon ?_
    refine ax_if_eq (q := 35) (x := 47) rfl rfl (fun h32 => ?_) (fun h32 => ?_)
    · have hb32 := it_0 h32
      refine ax_const (q := 48) (v := am_I 3) rfl rfl rfl ?_
      refine bx_iast (q := 49) (k := 12 + p) rfl rfl (rfl) (by omega) (by omega) ?_
      refine ax_load (q := 50) rfl rfl rfl rfl rfl ?_
      refine ax_getf (q := 53) (v := am_R 164) rfl rfl (rfl) ?_
      refine ax_const (q := 55) (v := am_I 12) rfl rfl rfl ?_
      refine ax_load (q := 56) rfl rfl rfl rfl rfl ?_
      refine ax_iadd (q := 57) (z := ((12 + p : Nat) : Int)) rfl rfl (am_we (by omega) (by omega) (by omega)) ?_
      refine bx_iald (q := 58) (k := 12 + p) (z := 3) rfl rfl (rfl) (by omega) (by omega) (by rw [sI_at, am_up_same]) ?_
      refine ax_const (q := 59) (v := am_I 2) rfl rfl rfl ?_
      refine ax_icmp_ne (q := 62) (x := 75) rfl rfl (fun h59 => ?_) (fun h => absurd h (by decide))
      refine ax_ret (r := none) rfl rfl ?_
      have e : op_ T v p = am_up v (12 + p) 3 := by
        unfold op_
        rw [if_neg (by omega), ho, show ((o : Int)).toNat = o by omega]
        simp [*]
      rw [e] at hQ
      rw [ha]
      exact hQ
    · have hb32 := it_n0 h32
      refine ax_load (q := 36) rfl rfl rfl rfl rfl ?_
      refine ax_load (q := 37) rfl rfl rfl rfl rfl ?_
      refine ax_callv (q := 40) rfl rfl rfl rfl rfl rfl ?_
      refine m_isUndone (by omega) hT hV ha hW hon ?_
      refine ax_if_ne (q := 43) (x := 47) rfl rfl (fun h40 => ?_) (fun h40 => ?_)
      · have hb40 := it_n0 h40
        refine ax_const (q := 48) (v := am_I 3) rfl rfl rfl ?_
        refine bx_iast (q := 49) (k := 12 + p) rfl rfl (rfl) (by omega) (by omega) ?_
        refine ax_load (q := 50) rfl rfl rfl rfl rfl ?_
        refine ax_getf (q := 53) (v := am_R 164) rfl rfl (rfl) ?_
        refine ax_const (q := 55) (v := am_I 12) rfl rfl rfl ?_
        refine ax_load (q := 56) rfl rfl rfl rfl rfl ?_
        refine ax_iadd (q := 57) (z := ((12 + p : Nat) : Int)) rfl rfl (am_we (by omega) (by omega) (by omega)) ?_
        refine bx_iald (q := 58) (k := 12 + p) (z := 3) rfl rfl (rfl) (by omega) (by omega) (by rw [sI_at, am_up_same]) ?_
        refine ax_const (q := 59) (v := am_I 2) rfl rfl rfl ?_
        refine ax_icmp_ne (q := 62) (x := 75) rfl rfl (fun h59 => ?_) (fun h => absurd h (by decide))
        refine ax_ret (r := none) rfl rfl ?_
        have e : op_ T v p = am_up v (12 + p) 3 := by
          unfold op_
          rw [if_neg (by omega), ho, show ((o : Int)).toNat = o by omega]
          simp [*]
        rw [e] at hQ
        rw [ha]
        exact hQ
      · have hb40 := it_0 h40
        refine ax_const (q := 44) (v := am_I 2) rfl rfl rfl ?_
        refine ax_goto (x := 48) rfl ?_
        refine bx_iast (q := 49) (k := 12 + p) rfl rfl (rfl) (by omega) (by omega) ?_
        refine ax_load (q := 50) rfl rfl rfl rfl rfl ?_
        refine ax_getf (q := 53) (v := am_R 164) rfl rfl (rfl) ?_
        refine ax_const (q := 55) (v := am_I 12) rfl rfl rfl ?_
        refine ax_load (q := 56) rfl rfl rfl rfl rfl ?_
        refine ax_iadd (q := 57) (z := ((12 + p : Nat) : Int)) rfl rfl (am_we (by omega) (by omega) (by omega)) ?_
        refine bx_iald (q := 58) (k := 12 + p) (z := 2) rfl rfl (rfl) (by omega) (by omega) (by rw [sI_at, am_up_same]) ?_
        refine ax_const (q := 59) (v := am_I 2) rfl rfl rfl ?_
        refine ax_icmp_ne (q := 62) (x := 75) rfl rfl (fun h => absurd h (by decide)) (fun h59 => ?_)
        refine ax_load (q := 63) rfl rfl rfl rfl rfl ?_
        refine ax_getf (q := 66) (v := am_R 164) rfl rfl (rfl) ?_
        refine ax_const (q := 68) (v := am_I 48) rfl rfl rfl ?_
        refine ax_dup2 (q := 69) rfl rfl rfl rfl ?_
        refine bx_iald (q := 70) (k := 48) (z := (((v 48).toNat : Nat) : Int)) rfl rfl (rfl) (by omega) (by omega) (by rw [sI_at, am_up_ne (by omega), ha]; omega) ?_
        refine ax_const (q := 71) (v := am_I 1) rfl rfl rfl ?_
        refine ax_load (q := 72) rfl rfl rfl rfl rfl ?_
        refine ax_ishl (q := 73) (z := ((2 ^ o : Nat) : Int)) rfl rfl (am_shl1 o (by omega)) ?_
        refine ax_ior (q := 74) (z := (((v 48).toNat ||| 2 ^ o : Nat) : Int)) rfl rfl (am_or_nat (by omega) (Nat.pow_lt_pow_right (by decide) (by omega))) ?_
        refine bx_iast (q := 75) (k := 48) rfl rfl (rfl) (by omega) (by omega) ?_
        refine ax_ret (r := none) rfl rfl ?_
        have e : op_ T v p = am_up (am_up v (12 + p) 2) 48 (((v 48).toNat ||| 2 ^ o : Nat) : Int) := by
          unfold op_
          rw [if_neg (by omega), ho, show ((o : Int)).toNat = o by omega, hb32, hb40]
          rfl
        rw [e] at hQ
        rw [sI_sI, sI_at, ha]
        exact hQ

