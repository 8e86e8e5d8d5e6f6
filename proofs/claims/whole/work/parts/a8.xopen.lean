def bc1_ (x : Int) : Int := am_w (x - am_and (am_ushr x 1) 1431655765)
def bc2_ (x : Int) : Int := am_w (am_and x 858993459 + am_and (am_ushr x 2) 858993459)
def bc3_ (x : Int) : Int := am_and (am_w (x + am_ushr x 4)) 252645135
def bc4_ (x : Int) : Int := am_w (x + am_ushr x 8)
def bc5_ (x : Int) : Int := am_w (x + am_ushr x 16)
theorem bc_all : ((List.range 64).all fun s => decide (am_and (bc5_ (bc4_ (bc3_ (bc2_ (bc1_ (s : Int)))))) 63 = ((mb_ s 6).length : Int))) = true := by decide +kernel
theorem bc_ok {s : Nat} (h : s < 64) : am_and (bc5_ (bc4_ (bc3_ (bc2_ (bc1_ (s : Int)))))) 63 = ((mb_ s 6).length : Int) := by
  have := bc_all
  rw [List.all_eq_true] at this
  exact of_decide_eq_true (this s (List.mem_range.mpr h))
theorem am_andnot_neg {a : Int} (h1 : -2147483648 ≤ a) (h2 : a < 0) {s : Nat} (hs : s < 64) : am_and a (am_xor (s : Int) (-1)) ≠ 0 := by
  intro h
  unfold am_and am_xor at h
  rw [Int32.ofInt_toInt] at h
  have h0 : Int32.ofInt a &&& (Int32.ofInt (s : Int) ^^^ Int32.ofInt (-1)) = 0 := Int32.toInt_inj.mp (by rw [h]; rfl)
  have hb := congrArg (fun y : Int32 => y.toBitVec.msb) h0
  simp only [Int32.toBitVec_and, Int32.toBitVec_xor, BitVec.msb_and, BitVec.msb_xor, Int32.toBitVec_ofInt] at hb
  have ea : (BitVec.ofInt 32 a).msb = true := by
    rw [BitVec.msb_eq_toInt, BitVec.toInt_ofInt, decide_eq_true_eq]
    rw [Int.bmod_eq_of_le (by omega) (by omega)]
    exact h2
  have es : (BitVec.ofInt 32 (s : Int)).msb = false := by
    rw [BitVec.msb_eq_toInt, BitVec.toInt_ofInt, decide_eq_false_iff_not]
    rw [Int.bmod_eq_of_le (by omega) (by omega)]
    omega
  have e1 : (BitVec.ofInt 32 (-1)).msb = true := by decide
  rw [ea, es, e1] at hb
  exact absurd hb (by decide)
/-- whether a set is one of sealed LETTERS, as the class asks it -/
theorem oc_x {T : sp_T} {v : sp_V} (hV : TV_ T) {a : Int} (h1 : -2147483648 ≤ a) (h2 : a ≤ 2147483647) : (am_and a (am_xor ((bi_ (nP_ T) (sh_ v) : Nat) : Int) (-1)) = 0) = (oc_ T v a = true) := by
  obtain ⟨r1, r2, _⟩ := rm_len T v hV
  unfold oc_
  by_cases q : a < 0
  · rw [eq_iff_iff]
    refine ⟨fun w => absurd w (am_andnot_neg h1 q r2), fun w => ?_⟩
    rw [decide_eq_false (by omega), Bool.false_and] at w
    cases w
  · obtain ⟨n, rfl⟩ : ∃ n : Nat, a = (n : Int) := ⟨a.toNat, by omega⟩
    rw [am_andnot (by omega) (by omega), Int.toNat_natCast, eq_iff_iff]
    constructor
    · intro w
      have w2 : n ^^^ (n &&& bi_ (nP_ T) (sh_ v)) = 0 := by omega
      have w3 : n = n &&& bi_ (nP_ T) (sh_ v) := by
        have := congrArg (fun y => y ^^^ (n &&& bi_ (nP_ T) (sh_ v))) w2
        simpa [Nat.xor_assoc] using this
      have w4 : n &&& bi_ (nP_ T) (sh_ v) ≤ bi_ (nP_ T) (sh_ v) := Nat.and_le_right
      rw [decide_eq_true (by omega), decide_eq_true w2]
      rfl
    · intro w
      rw [Bool.and_eq_true, decide_eq_true_eq, decide_eq_true_eq] at w
      omega
theorem oc_lt {T : sp_T} {v : sp_V} (hV : TV_ T) {a : Int} (h : oc_ T v a = true) : ∃ s : Nat, a = (s : Int) ∧ s < 2 ^ nP_ T ∧ s < 64 := by
  have h6 := hV.nP
  unfold oc_ at h
  rw [Bool.and_eq_true, decide_eq_true_eq, decide_eq_true_eq] at h
  have hp : 2 ^ nP_ T ≤ 2 ^ 6 := Nat.pow_le_pow_right (by decide) h6.2
  exact ⟨a.toNat, by omega, by omega, by omega⟩
theorem ob_far {T : sp_T} {v : sp_V} {l : List Nat} : ∀ k, (∀ i, i < k → l.getD i 0 < 6) → ∀ j, (j < 12 ∨ 18 ≤ j) → j ≠ 48 → ob_ T v l k j = v j
  | 0, _, _, _, _ => rfl
  | k + 1, h, j, hj, h48 => by
    have hk := h k (by omega)
    show op_ T (ob_ T v l k) (l.getD k 0) j = v j
    rw [op_ne (by omega) h48]
    exact ob_far k (fun i hi => h i (by omega)) j hj h48
/-- what one OPENING in a row does, by the orders that are done before it -/
theorem op_dn {T : sp_T} (hV : TV_ T) {v x : sp_V} (hx : ∀ j, (j < 12 ∨ 18 ≤ j) → j ≠ 48 → x j = v j) {p : Nat} (hp : p < 6) (ho : v (6 + p) < T 135 51) {d : Nat} (hd : x 48 = (d : Int)) : (wd2_ T v p d = true → op_ T x p (12 + p) = 2 ∧ op_ T x p 48 = ((d ||| 2 ^ (v (6 + p)).toNat : Nat) : Int)) ∧ (wd2_ T v p d = false → op_ T x p (12 + p) ≠ 2 ∧ op_ T x p 48 = (d : Int)) := by
  have h8 := hV.nO
  have eh : x (6 + p) = v (6 + p) := hx _ (by omega) (by omega)
  unfold op_ wd2_
  rw [eh]
  by_cases q : v (6 + p) < 0
  · rw [if_pos q, decide_eq_false (by omega)]
    refine ⟨fun w => by simp at w, fun _ => ⟨by rw [am_up_same]; decide, by rw [am_up_ne (by omega)]; exact hd⟩⟩
  · obtain ⟨o, hoo⟩ : ∃ o : Nat, v (6 + p) = (o : Int) := ⟨(v (6 + p)).toNat, by omega⟩
    rw [if_neg q, decide_eq_true (by omega), hoo, Int.toNat_natCast, Bool.true_and]
    have hs4 := (hV.sk (o := o) (by omega)).2.2
    have ec : cn_ T x p o = cn_ T v p o := by unfold cn_; rw [hx _ (by omega) (by omega)]
    have eu : ud_ T x o = an_ (nO_ T) (fun u => tb_ (T 156 u) o && d.testBit u) := by unfold ud_; rw [hd]; rfl
    rw [ec, eu]
    by_cases w : (cn_ T v p o && !an_ (nO_ T) (fun u => tb_ (T 156 u) o && d.testBit u)) = true
    · rw [w, if_pos rfl, hd, Int.toNat_natCast]
      exact ⟨fun _ => ⟨by rw [am_up_ne (by omega), am_up_same], by rw [am_up_same]⟩, fun w => by cases w⟩
    · rw [Bool.not_eq_true] at w
      rw [w, if_neg (by decide)]
      exact ⟨fun w => (by cases w), fun _ => ⟨by rw [am_up_same]; decide, by rw [am_up_ne (by omega)]; exact hd⟩⟩
/-- the row of the best orders -/
def KO_ (n : Nat) (l : List Nat) (f : Nat → Int) : Prop := ∀ k, k < n → f k = (l.getD k 0 : Int)
def bo2_ (f : List Nat → Int) (M : List Nat) (i : Nat) : Int × List Nat := be_ f ((List.range i).map (tt_ M.length M (fa_ M.length))) (-1, [])
theorem bo2_s {f : List Nat → Int} {M : List Nat} {i : Nat} : bo2_ f M (i + 1) = if (bo2_ f M i).1 < f (tt_ M.length M (fa_ M.length) i) then (f (tt_ M.length M (fa_ M.length) i), tt_ M.length M (fa_ M.length) i) else bo2_ f M i := by
  unfold bo2_
  rw [List.range_succ, List.map_append, be_app]
  rfl

theorem x_bitCount {d : Nat} (hd : 1 ≤ d) {σ : am_S} {s : Nat} (hs : s < 64) {Q : Option am_V → am_S → Prop} (hQ : Q (some (am_I ((mb_ s 6).length : Int))) σ) : am_Ev d 262 [am_I ((s : Nat) : Int)] σ Q := by
  obtain ⟨d, rfl⟩ : ∃ e, d = e + 1 := ⟨d - 1, by omega⟩
  refine ev_in (m := 262) (c := k_J6_bitCount_0f7a4) (L := [some (am_I ((s : Nat) : Int))]) rfl rfl rfl rfl rfl rfl ?_
  refine ax_load (q := 1) rfl rfl rfl rfl rfl ?_
  refine ax_load (q := 2) rfl rfl rfl rfl rfl ?_
  refine ax_const (q := 3) (v := am_I 1) rfl rfl rfl ?_
  refine ax_iushr (q := 4) (z := am_ushr (s : Int) 1) rfl rfl (rfl) ?_
  refine ax_const (q := 7) (v := am_I 1431655765) rfl rfl rfl ?_
  refine ax_iand (q := 8) (z := am_and (am_ushr (s : Int) 1) 1431655765) rfl rfl (rfl) ?_
  refine ax_isub (q := 9) (z := bc1_ (s : Int)) rfl rfl (rfl) ?_
  refine ax_store (q := 10) (L' := [some (am_I (bc1_ (s : Int)))]) rfl rfl rfl rfl rfl rfl ?_
  refine ax_load (q := 11) rfl rfl rfl rfl rfl ?_
  refine ax_const (q := 14) (v := am_I 858993459) rfl rfl rfl ?_
  refine ax_iand (q := 15) (z := am_and (bc1_ (s : Int)) 858993459) rfl rfl (rfl) ?_
  refine ax_load (q := 16) rfl rfl rfl rfl rfl ?_
  refine ax_const (q := 17) (v := am_I 2) rfl rfl rfl ?_
  refine ax_iushr (q := 18) (z := am_ushr (bc1_ (s : Int)) 2) rfl rfl (rfl) ?_
  refine ax_const (q := 21) (v := am_I 858993459) rfl rfl rfl ?_
  refine ax_iand (q := 22) (z := am_and (am_ushr (bc1_ (s : Int)) 2) 858993459) rfl rfl (rfl) ?_
  refine ax_iadd (q := 23) (z := bc2_ (bc1_ (s : Int))) rfl rfl (rfl) ?_
  refine ax_store (q := 24) (L' := [some (am_I (bc2_ (bc1_ (s : Int))))]) rfl rfl rfl rfl rfl rfl ?_
  refine ax_load (q := 25) rfl rfl rfl rfl rfl ?_
  refine ax_load (q := 26) rfl rfl rfl rfl rfl ?_
  refine ax_const (q := 27) (v := am_I 4) rfl rfl rfl ?_
  refine ax_iushr (q := 28) (z := am_ushr (bc2_ (bc1_ (s : Int))) 4) rfl rfl (rfl) ?_
  refine ax_iadd (q := 29) (z := am_w (bc2_ (bc1_ (s : Int)) + am_ushr (bc2_ (bc1_ (s : Int))) 4)) rfl rfl (rfl) ?_
  refine ax_const (q := 32) (v := am_I 252645135) rfl rfl rfl ?_
  refine ax_iand (q := 33) (z := bc3_ (bc2_ (bc1_ (s : Int)))) rfl rfl (rfl) ?_
  refine ax_store (q := 34) (L' := [some (am_I (bc3_ (bc2_ (bc1_ (s : Int)))))]) rfl rfl rfl rfl rfl rfl ?_
  refine ax_load (q := 35) rfl rfl rfl rfl rfl ?_
  refine ax_load (q := 36) rfl rfl rfl rfl rfl ?_
  refine ax_const (q := 38) (v := am_I 8) rfl rfl rfl ?_
  refine ax_iushr (q := 39) (z := am_ushr (bc3_ (bc2_ (bc1_ (s : Int)))) 8) rfl rfl (rfl) ?_
  refine ax_iadd (q := 40) (z := bc4_ (bc3_ (bc2_ (bc1_ (s : Int))))) rfl rfl (rfl) ?_
  refine ax_store (q := 41) (L' := [some (am_I (bc4_ (bc3_ (bc2_ (bc1_ (s : Int))))))]) rfl rfl rfl rfl rfl rfl ?_
  refine ax_load (q := 42) rfl rfl rfl rfl rfl ?_
  refine ax_load (q := 43) rfl rfl rfl rfl rfl ?_
  refine ax_const (q := 45) (v := am_I 16) rfl rfl rfl ?_
  refine ax_iushr (q := 46) (z := am_ushr (bc4_ (bc3_ (bc2_ (bc1_ (s : Int))))) 16) rfl rfl (rfl) ?_
  refine ax_iadd (q := 47) (z := bc5_ (bc4_ (bc3_ (bc2_ (bc1_ (s : Int)))))) rfl rfl (rfl) ?_
  refine ax_store (q := 48) (L' := [some (am_I (bc5_ (bc4_ (bc3_ (bc2_ (bc1_ (s : Int)))))))]) rfl rfl rfl rfl rfl rfl ?_
  refine ax_load (q := 49) rfl rfl rfl rfl rfl ?_
  refine ax_const (q := 51) (v := am_I 63) rfl rfl rfl ?_
  refine ax_iand (q := 52) (z := ((mb_ s 6).length : Int)) rfl rfl (bc_ok hs) ?_
  refine ax_ret (r := some (am_I ((mb_ s 6).length : Int))) rfl rfl ?_
  exact hQ

theorem xl_doneInTurn {d : Nat} (hd : 3 ≤ d) {σ : am_S} {t : Nat} {T : sp_T} {v : sp_V} (hL : PL_ 68 t T v σ) (hV : TV_ T) {b : Int} (hW : VV_ T b v) (hD : DN_ T v) {M l : List Nat} (hM : RS5_ M σ) (hlen : l.length = M.length) (hl : ∀ k, k < M.length → σ.1 126 k = (l.getD k 0 : Int)) (hlp : ∀ k, k < l.length → l.getD k 0 < nP_ T) {Q : Option am_V → am_S → Prop} (hQ : Q (some (am_I ((db_ T v l : Nat) : Int))) σ) : ∀ (m k dd : Nat), k + m = M.length → ob_ T v l k 48 = (dd : Int) → aW d 0 k_X5_doneInTurn Q 12 [some (am_R 123), some (am_I ((dd : Nat) : Int)), some (am_I (((ct_ k (fun k => decide (ob_ T v l (k + 1) (12 + l.getD k 0) = 2))) : Nat) : Int)), some (am_I ((k : Nat) : Int))] [] σ := by
  have hn6 := hV.nP
  have hM6 := hM.2.1
  intro m
  induction m with
  | zero =>
    intro k dd hk hdd
    obtain hk2 : k = M.length := by omega
    subst hk2
    refine ax_load (q := 13) rfl rfl rfl rfl rfl ?_
    refine ax_load (q := 14) rfl rfl rfl rfl rfl ?_
    refine ax_getf (q := 17) (v := am_I ((M.length : Nat) : Int)) rfl rfl (am_fg rfl hM.1) ?_
    refine ax_icmp_ge (q := 20) (x := 68) rfl rfl (fun h17 => ?_) (fun h => absurd h (by omega))
    refine ax_load (q := 69) rfl rfl rfl rfl rfl ?_
    refine ax_ret (r := some (am_I (((ct_ M.length (fun k => decide (ob_ T v l (k + 1) (12 + l.getD k 0) = 2))) : Nat) : Int))) rfl rfl ?_
    unfold db_ at hQ
    rw [hlen] at hQ
    exact hQ
  | succ m ih =>
    intro k dd hk hdd
    have hkl : k < l.length := by omega
    have hp := hlp k hkl
    have hop := op_dn hV (x := ob_ T v l k) (fun j h1 h2 => ob_far k (fun i hi => by have := hlp i (by omega); omega) j h1 h2) (show l.getD k 0 < 6 by omega) (hW.2.2 _ hp).2.1.2 hdd
    have hob := (VV_.ob hW hV hlp k (by omega)).2.1
    have hheld := (hW.2.2 _ hp).2.1
    have hO8 := hV.nO
    have e1 : ob_ T v l (k + 1) = op_ T (ob_ T v l k) (l.getD k 0) := rfl
    have e2 : ct_ (k + 1) (fun k => decide (ob_ T v l (k + 1) (12 + l.getD k 0) = 2)) = ct_ k (fun k => decide (ob_ T v l (k + 1) (12 + l.getD k 0) = 2)) + (if decide (ob_ T v l (k + 1) (12 + l.getD k 0) = 2) = true then 1 else 0) := rfl
    have hctb := ct_le (fun k => decide (ob_ T v l (k + 1) (12 + l.getD k 0) = 2)) k
    refine ax_load (q := 13) rfl rfl rfl rfl rfl ?_
    refine ax_load (q := 14) rfl rfl rfl rfl rfl ?_
    refine ax_getf (q := 17) (v := am_I ((M.length : Nat) : Int)) rfl rfl (am_fg rfl hM.1) ?_
    refine ax_icmp_ge (q := 20) (x := 68) rfl rfl (fun h => absurd h (by omega)) (fun h17 => ?_)
    refine ax_load (q := 21) rfl rfl rfl rfl rfl ?_
    refine ax_getf (q := 24) (v := am_R 68) rfl rfl (rfl) ?_
    refine ax_load (q := 25) rfl rfl rfl rfl rfl ?_
    refine ax_getf (q := 28) (v := am_R 126) rfl rfl (rfl) ?_
    refine ax_load (q := 29) rfl rfl rfl rfl rfl ?_
    refine bx_iald (q := 30) (k := k) (z := ((l.getD k 0 : Nat) : Int)) rfl rfl (rfl) (by omega) (by omega) (hl k (by omega)) ?_
    refine ax_load (q := 31) rfl rfl rfl rfl rfl ?_
    refine ax_callv (q := 34) rfl rfl rfl rfl rfl rfl ?_
    refine x_wouldDo (by omega) hL hV hW hp (show dd < 256 by omega) ?_
    refine ax_if_eq (q := 37) (x := 62) rfl rfl (fun h34 => ?_) (fun h34 => ?_)
    · have hw : wd2_ T v (l.getD k 0) dd = false := by
        cases w : wd2_ T v (l.getD k 0) dd with
        | false => rfl
        | true => rw [w] at h34; simp at h34
      have g2 := hop.2 hw
      refine ax_iinc (q := 65) (z' := ((k + 1 : Nat) : Int)) (L' := [some (am_R 123), some (am_I ((dd : Nat) : Int)), some (am_I (((ct_ k (fun k => decide (ob_ T v l (k + 1) (12 + l.getD k 0) = 2))) : Nat) : Int)), some (am_I ((k + 1 : Nat) : Int))]) rfl rfl rfl rfl (am_we (by omega) (by omega) (by omega)) rfl ?_
      refine ax_goto (x := 12) rfl ?_
      rw [decide_eq_false (show ¬ ob_ T v l (k + 1) (12 + l.getD k 0) = 2 by rw [e1]; exact g2.1)] at e2
      have g := ih (k + 1) dd (by omega) (by rw [e1]; exact g2.2)
      rw [e2] at g
      exact g
    · have hw : wd2_ T v (l.getD k 0) dd = true := by
        cases w : wd2_ T v (l.getD k 0) dd with
        | true => rfl
        | false => rw [w] at h34; exact absurd rfl h34
      have g2 := hop.1 hw
      have h0 : 0 ≤ v (6 + l.getD k 0) := by
        unfold wd2_ at hw
        rw [Bool.and_eq_true, Bool.and_eq_true, decide_eq_true_eq] at hw
        exact hw.1.1
      obtain ⟨o, ho⟩ : ∃ o : Nat, v (6 + l.getD k 0) = (o : Int) := ⟨(v (6 + l.getD k 0)).toNat, by omega⟩
      have ho2 : (v (6 + l.getD k 0)).toNat = o := by omega
      rw [ho2] at g2
      have hp2 : 2 ^ o < 2 ^ 8 := Nat.pow_lt_pow_right (by decide) (by omega)
      have hor : dd ||| 2 ^ o < 2 ^ 8 := Nat.or_lt_two_pow (by omega) hp2
      refine ax_load (q := 38) rfl rfl rfl rfl rfl ?_
      refine ax_const (q := 39) (v := am_I 1) rfl rfl rfl ?_
      refine ax_load (q := 40) rfl rfl rfl rfl rfl ?_
      refine ax_getf (q := 43) (v := am_R 68) rfl rfl (rfl) ?_
      refine ax_getf (q := 46) (v := am_R 69) rfl rfl (rfl) ?_
      refine ax_const (q := 48) (v := am_I 18) rfl rfl rfl ?_
      refine ax_load (q := 49) rfl rfl rfl rfl rfl ?_
      refine ax_getf (q := 52) (v := am_R 126) rfl rfl (rfl) ?_
      refine ax_load (q := 53) rfl rfl rfl rfl rfl ?_
      refine bx_iald (q := 54) (k := k) (z := ((l.getD k 0 : Nat) : Int)) rfl rfl (rfl) (by omega) (by omega) (hl k (by omega)) ?_
      refine ax_iadd (q := 55) (z := ((18 + l.getD k 0 : Nat) : Int)) rfl rfl (am_we (by omega) (by omega) (by omega)) ?_
      refine bx_iald (q := 56) (k := 18 + l.getD k 0) (z := ((o : Nat) : Int)) rfl rfl (rfl) (by omega) (by omega) ((hL.rw.hd _ hp).trans ho) ?_
      refine ax_ishl (q := 57) (z := ((2 ^ o : Nat) : Int)) rfl rfl (am_shl1 o (by omega)) ?_
      refine ax_ior (q := 58) (z := ((dd ||| 2 ^ o : Nat) : Int)) rfl rfl (am_or_nat (by omega) (by omega)) ?_
      refine ax_store (q := 59) (L' := [some (am_R 123), some (am_I ((dd ||| 2 ^ o : Nat) : Int)), some (am_I (((ct_ k (fun k => decide (ob_ T v l (k + 1) (12 + l.getD k 0) = 2))) : Nat) : Int)), some (am_I ((k : Nat) : Int))]) rfl rfl rfl rfl rfl rfl ?_
      refine ax_iinc (q := 62) (z' := ((((ct_ k (fun k => decide (ob_ T v l (k + 1) (12 + l.getD k 0) = 2)))) + 1 : Nat) : Int)) (L' := [some (am_R 123), some (am_I ((dd ||| 2 ^ o : Nat) : Int)), some (am_I ((((ct_ k (fun k => decide (ob_ T v l (k + 1) (12 + l.getD k 0) = 2)))) + 1 : Nat) : Int)), some (am_I ((k : Nat) : Int))]) rfl rfl rfl rfl (am_we (by omega) (by omega) (by omega)) rfl ?_
      refine ax_iinc (q := 65) (z' := ((k + 1 : Nat) : Int)) (L' := [some (am_R 123), some (am_I ((dd ||| 2 ^ o : Nat) : Int)), some (am_I ((((ct_ k (fun k => decide (ob_ T v l (k + 1) (12 + l.getD k 0) = 2)))) + 1 : Nat) : Int)), some (am_I ((k + 1 : Nat) : Int))]) rfl rfl rfl rfl (am_we (by omega) (by omega) (by omega)) rfl ?_
      refine ax_goto (x := 12) rfl ?_
      rw [decide_eq_true (show ob_ T v l (k + 1) (12 + l.getD k 0) = 2 by rw [e1]; exact g2.1)] at e2
      have g := ih (k + 1) (dd ||| 2 ^ o) (by omega) (by rw [e1]; exact g2.2)
      rw [e2] at g
      exact g

theorem x_doneInTurn {d : Nat} (hd : 4 ≤ d) {σ : am_S} {t : Nat} {T : sp_T} {v : sp_V} (hL : PL_ 68 t T v σ) (hV : TV_ T) {b : Int} (hW : VV_ T b v) (hD : DN_ T v) {M l : List Nat} (hM : RS5_ M σ) (hlen : l.length = M.length) (hl : ∀ k, k < M.length → σ.1 126 k = (l.getD k 0 : Int)) (hlp : ∀ k, k < l.length → l.getD k 0 < nP_ T) {Q : Option am_V → am_S → Prop} (hQ : Q (some (am_I ((db_ T v l : Nat) : Int))) σ) : am_Ev d 79 [am_R 123] σ Q := by
  obtain ⟨d, rfl⟩ : ∃ e, d = e + 1 := ⟨d - 1, by omega⟩
  have h48 := hW.2.1
  obtain ⟨dd, hdd⟩ : ∃ dd : Nat, v 48 = (dd : Int) := ⟨(v 48).toNat, by omega⟩
  refine ev_in (m := 79) (c := k_X5_doneInTurn) (L := [some (am_R 123), none, none, none]) rfl rfl rfl rfl rfl rfl ?_
  refine ax_load (q := 1) rfl rfl rfl rfl rfl ?_
  refine ax_getf (q := 4) (v := am_R 68) rfl rfl (rfl) ?_
  refine ax_callv (q := 7) rfl rfl rfl rfl rfl rfl ?_
  refine x_doneOrders (by omega) hL hV hW hD ?_
  rw [hdd]
  refine ax_store (q := 8) (L' := [some (am_R 123), some (am_I ((dd : Nat) : Int)), none, none]) rfl rfl rfl rfl rfl rfl ?_
  refine ax_const (q := 9) (v := am_I 0) rfl rfl rfl ?_
  refine ax_store (q := 10) (L' := [some (am_R 123), some (am_I ((dd : Nat) : Int)), some (am_I 0), none]) rfl rfl rfl rfl rfl rfl ?_
  refine ax_const (q := 11) (v := am_I 0) rfl rfl rfl ?_
  refine ax_store (q := 12) (L' := [some (am_R 123), some (am_I ((dd : Nat) : Int)), some (am_I 0), some (am_I 0)]) rfl rfl rfl rfl rfl rfl ?_
  exact xl_doneInTurn (by omega) hL hV hW hD hM hlen hl hlp hQ M.length 0 dd (by omega) hdd

theorem PL_.f6r {t : Nat} {T : sp_T} {v : sp_V} {σ σ' : am_S} (h : PL_ 68 t T v σ) (hf : fr_ [123, 124, 125, 126, 134] σ σ') : PL_ 68 t T v σ' := h.fr hf (by have := h.ht; intro a ha; simp at ha; omega)

theorem xl_bestOp {d : Nat} (hd : 5 ≤ d) {σ : am_S} {t : Nat} {T : sp_T} {v : sp_V} (hL : PL_ 68 t T v σ) (hV : TV_ T) {b : Int} (hW : VV_ T b v) (hD : DN_ T v) {s : Nat} (hs : s < 2 ^ nP_ T) (hs64 : s < 64) {M : List Nat} (hMe : M = mb_ s 6) (hM : RS5_ M σ) {Q : Option am_V → am_S → Prop} (hQ : ∀ σ', fr_ [124, 126] σ σ' → KO_ M.length (of_ T v s).2 (σ'.1 124) → Q (some (am_I (of_ T v s).1)) σ') : ∀ (m i : Nat) (x4 : Option am_V), i + m = fa_ M.length → ∀ σ', fr_ [124, 126] σ σ' → ((bo2_ (fun r => ((db_ T v r : Nat) : Int)) M i).1 = -1 ∨ KO_ M.length (bo2_ (fun r => ((db_ T v r : Nat) : Int)) M i).2 (σ'.1 124)) → aW d 0 k_X5_bestOpening Q 9 [some (am_R 123), some (am_I ((s : Nat) : Int)), some (am_I ((bo2_ (fun r => ((db_ T v r : Nat) : Int)) M i).1)), some (am_I ((i : Nat) : Int)), x4] [] σ' := by
  have hn6 := hV.nP
  have hM6 := hM.2.1
  have hfb := fa_bd M.length hM6
  have hMn : M = mb_ s (nP_ T) := by rw [hMe, mb_eq hn6.2 hs]
  have hnd : M.Nodup := by rw [hMe]; exact mb_nodup hs64
  obtain ⟨ll, k1, k2, k3, k4⟩ := rs_ok hn6.2 hs
  rw [← hMn] at k1 k2 k3 k4
  have hrow : ∀ i, i < fa_ M.length → (tt_ M.length M (fa_ M.length) i).length = M.length ∧ ∀ k, k < (tt_ M.length M (fa_ M.length) i).length → (tt_ M.length M (fa_ M.length) i).getD k 0 < nP_ T := by
    intro i hi
    have hmem : tt_ M.length M (fa_ M.length) i ∈ M :: ll := by rw [← k1]; exact List.mem_map.mpr ⟨i, List.mem_range.mpr hi, rfl⟩
    exact ⟨(k3 _ hmem).1, fun k hk => ((k3 _ hmem).2 k hk).2⟩
  have hfin : bo2_ (fun r => ((db_ T v r : Nat) : Int)) M (fa_ M.length) = of_ T v s := by unfold of_; rw [← hMn]; rfl
  have hge : 0 ≤ (of_ T v s).1 := by
    have hb := (be_up (fun r => ((db_ T v r : Nat) : Int)) (rs_ M) (-1, [])).2 M (by rw [k1]; exact List.mem_cons_self)
    rw [← hfin]
    exact Int.le_trans (Int.natCast_nonneg _) hb
  intro m
  induction m with
  | zero =>
    intro i x4 hi σ' hf hb
    obtain hi2 : i = fa_ M.length := by omega
    subst hi2
    have hM2 := hM.fr hf (by decide) (by decide)
    refine ax_load (q := 10) rfl rfl rfl rfl rfl ?_
    refine ax_load (q := 11) rfl rfl rfl rfl rfl ?_
    refine ax_callv (q := 14) rfl rfl rfl rfl rfl rfl ?_
    refine x_count (by omega) hM2.1 hM6 ?_
    refine ax_icmp_ge (q := 17) (x := 58) rfl rfl (fun h14 => ?_) (fun h => absurd h (by omega))
    refine ax_load (q := 59) rfl rfl rfl rfl rfl ?_
    refine ax_ret (r := some (am_I ((bo2_ (fun r => ((db_ T v r : Nat) : Int)) M (fa_ M.length)).1))) rfl rfl ?_
    rw [hfin] at hb ⊢
    exact hQ _ hf (by rcases hb with w | w; omega; exact w)
  | succ m ih =>
    intro i x4 hi σ' hf hb
    have hM2 := hM.fr hf (by decide) (by decide)
    have hL2 : PL_ 68 t T v σ' := hL.f6r (fr_sub hf (by simp))
    have hst := bo2_s (f := (fun r => ((db_ T v r : Nat) : Int))) (M := M) (i := i)
    refine ax_load (q := 10) rfl rfl rfl rfl rfl ?_
    refine ax_load (q := 11) rfl rfl rfl rfl rfl ?_
    refine ax_callv (q := 14) rfl rfl rfl rfl rfl rfl ?_
    refine x_count (by omega) hM2.1 hM6 ?_
    refine ax_icmp_ge (q := 17) (x := 58) rfl rfl (fun h => absurd h (by omega)) (fun h14 => ?_)
    refine ax_load (q := 18) rfl rfl rfl rfl rfl ?_
    refine ax_load (q := 19) rfl rfl rfl rfl rfl ?_
    refine ax_callv (q := 22) rfl rfl rfl rfl rfl rfl ?_
    refine x_turnTo (by omega) hM2 hnd (num := i) (by omega) (fun σ2 hf2 hr2 => ?_)
    have hf02 := fr_tr hf hf2 (by simp)
    have hM3 := hM2.fr hf2 (by decide) (by decide)
    have hL3 := hL2.f6r (fr_sub hf2 (by simp))
    have hrw := hrow i (by omega)
    refine ax_load (q := 23) rfl rfl rfl rfl rfl ?_
    refine ax_callv (q := 26) rfl rfl rfl rfl rfl rfl ?_
    refine x_doneInTurn (by omega) hL3 hV hW hD hM3 hrw.1 hr2 hrw.2 ?_
    refine ax_store (q := 28) (L' := [some (am_R 123), some (am_I ((s : Nat) : Int)), some (am_I ((bo2_ (fun r => ((db_ T v r : Nat) : Int)) M i).1)), some (am_I ((i : Nat) : Int)), some (am_I ((db_ T v (tt_ M.length M (fa_ M.length) i) : Nat) : Int))]) rfl rfl rfl rfl rfl rfl ?_
    refine ax_load (q := 30) rfl rfl rfl rfl rfl ?_
    refine ax_load (q := 31) rfl rfl rfl rfl rfl ?_
    refine ax_icmp_le (q := 34) (x := 52) rfl rfl (fun h31 => ?_) (fun h31 => ?_)
    · refine ax_iinc (q := 55) (z' := ((i + 1 : Nat) : Int)) (L' := [some (am_R 123), some (am_I ((s : Nat) : Int)), some (am_I ((bo2_ (fun r => ((db_ T v r : Nat) : Int)) M i).1)), some (am_I ((i + 1 : Nat) : Int)), some (am_I ((db_ T v (tt_ M.length M (fa_ M.length) i) : Nat) : Int))]) rfl rfl rfl rfl (am_we (by omega) (by omega) (by omega)) rfl ?_
      refine ax_goto (x := 9) rfl ?_
      rw [if_neg (by omega)] at hst
      have g := ih (i + 1) (some (am_I ((db_ T v (tt_ M.length M (fa_ M.length) i) : Nat) : Int))) (by omega) σ2 hf02
      rw [hst] at g
      exact g (by rcases hb with w | w; exact Or.inl w; exact Or.inr (by rw [hf2.1 124 (by decide)]; exact w))
    · refine ax_load (q := 36) rfl rfl rfl rfl rfl ?_
      refine ax_store (q := 37) (L' := [some (am_R 123), some (am_I ((s : Nat) : Int)), some (am_I ((db_ T v (tt_ M.length M (fa_ M.length) i) : Nat) : Int)), some (am_I ((i : Nat) : Int)), some (am_I ((db_ T v (tt_ M.length M (fa_ M.length) i) : Nat) : Int))]) rfl rfl rfl rfl rfl rfl ?_
      refine ax_load (q := 38) rfl rfl rfl rfl rfl ?_
      refine ax_getf (q := 41) (v := am_R 126) rfl rfl (rfl) ?_
      refine ax_const (q := 42) (v := am_I 0) rfl rfl rfl ?_
      refine ax_load (q := 43) rfl rfl rfl rfl rfl ?_
      refine ax_getf (q := 46) (v := am_R 124) rfl rfl (rfl) ?_
      refine ax_const (q := 47) (v := am_I 0) rfl rfl rfl ?_
      refine ax_const (q := 49) (v := am_I 6) rfl rfl rfl ?_
      refine ax_copy (q := 52) rfl rfl rfl rfl rfl (by decide) (by decide) (by decide) (by decide) (by decide) ?_
      refine ax_iinc (q := 55) (z' := ((i + 1 : Nat) : Int)) (L' := [some (am_R 123), some (am_I ((s : Nat) : Int)), some (am_I ((db_ T v (tt_ M.length M (fa_ M.length) i) : Nat) : Int)), some (am_I ((i + 1 : Nat) : Int)), some (am_I ((db_ T v (tt_ M.length M (fa_ M.length) i) : Nat) : Int))]) rfl rfl rfl rfl (am_we (by omega) (by omega) (by omega)) rfl ?_
      refine ax_goto (x := 9) rfl ?_
      rw [if_pos (by omega)] at hst
      have g := ih (i + 1) (some (am_I ((db_ T v (tt_ M.length M (fa_ M.length) i) : Nat) : Int))) (by omega) (am_sI σ2 124 (va_cpy (σ2.1 126) (σ2.1 124) 0 0 6)) (fr_sI hf02 (by simp))
      rw [hst] at g
      exact g (Or.inr (fun k hk => by rw [sI_at, cpy_0 _ _ (by omega)]; exact hr2 k hk))

theorem x_bestOpening {d : Nat} (hd : 6 ≤ d) {σ : am_S} {t : Nat} {T : sp_T} {v : sp_V} (hL : PL_ 68 t T v σ) (hV : TV_ T) {b : Int} (hW : VV_ T b v) (hD : DN_ T v) {s : Nat} (hs : s < 2 ^ nP_ T) (hs64 : s < 64) {Q : Option am_V → am_S → Prop} (hQ : ∀ σ', fr_ [123, 124, 125, 126] σ σ' → KO_ (mb_ s (nP_ T)).length (of_ T v s).2 (σ'.1 124) → Q (some (am_I (of_ T v s).1)) σ') : am_Ev d 78 [am_R 123, am_I ((s : Nat) : Int)] σ Q := by
  obtain ⟨d, rfl⟩ : ∃ e, d = e + 1 := ⟨d - 1, by omega⟩
  have hn6 := hV.nP
  refine ev_in (m := 78) (c := k_X5_bestOpening) (L := [some (am_R 123), some (am_I ((s : Nat) : Int)), none, none, none]) rfl rfl rfl rfl rfl rfl ?_
  refine ax_load (q := 1) rfl rfl rfl rfl rfl ?_
  refine ax_load (q := 2) rfl rfl rfl rfl rfl ?_
  refine ax_callv (q := 5) rfl rfl rfl rfl rfl rfl ?_
  refine x_begin5 (by omega) hs64 (fun σ1 hf1 hM1 => ?_)
  have hL1 : PL_ 68 t T v σ1 := hL.f6r (fr_sub hf1 (by simp))
  refine ax_const (q := 6) (v := am_I (-1)) rfl rfl rfl ?_
  refine ax_store (q := 7) (L' := [some (am_R 123), some (am_I ((s : Nat) : Int)), some (am_I (-1)), none, none]) rfl rfl rfl rfl rfl rfl ?_
  refine ax_const (q := 8) (v := am_I 0) rfl rfl rfl ?_
  refine ax_store (q := 9) (L' := [some (am_R 123), some (am_I ((s : Nat) : Int)), some (am_I (-1)), some (am_I 0), none]) rfl rfl rfl rfl rfl rfl ?_
  exact xl_bestOp (by omega) hL1 hV hW hD hs hs64 rfl hM1 (fun σ' hf hk => hQ σ' (fr_tr (fr_sub hf1 (by simp)) hf (by simp)) (by rw [← mb_eq hn6.2 hs] at hk; exact hk)) (fa_ (mb_ s 6).length) 0 _ (by omega) σ1 (fr_rf _ _) (Or.inl rfl)

theorem x_opening {d : Nat} (hd : 8 ≤ d) {σ : am_S} {t : Nat} {T : sp_T} {v : sp_V} (hL : PL_ 68 t T v σ) (hV : TV_ T) {b : Int} (hW : VV_ T b v) (hb9 : b < 900000) (hD : DN_ T v) {a : Int} (ha : -2147483648 ≤ a ∧ a ≤ 2147483647) {Q : Option am_V → am_S → Prop} (hN : oc_ T v a = false → ∀ σ', l0_ [123, 124, 125, 126, 134] σ σ' → σ'.1 0 14 = 0 → Q (some (am_I (-1))) σ') (hY : oc_ T v a = true → ∀ σ', l0_ [123, 124, 125, 126, 134] σ σ' → σ'.1 0 14 = ((mb_ a.toNat (nP_ T)).length : Int) → (∀ k, k < (mb_ a.toNat (nP_ T)).length → σ'.1 134 k = ((of_ T v a.toNat).2.getD k 0 : Int)) → Q (some (am_I (of_ T v a.toNat).1)) σ') : am_Ev d 126 [am_R 0, am_I a] σ Q := by
  obtain ⟨d, rfl⟩ : ∃ e, d = e + 1 := ⟨d - 1, by omega⟩
  have ht := hL.ht
  have hn6 := hV.nP
  obtain ⟨σ0, h0⟩ : ∃ s, s = (am_sI σ 0 (am_up (σ.1 0) 14 0)) := ⟨_, rfl⟩
  have hl0 : l0_ [123, 124, 125, 126, 134] σ σ0 := by rw [h0]; exact l0_s _
  have hL0 : PL_ 68 t T v σ0 := hL.l0 hl0 (by intro a ha; simp at ha; omega)
  have z0 : σ0.1 0 14 = 0 := by rw [h0, sI_at, am_up_same]
  refine ev_in (m := 126) (c := k_X8_opening) (L := [some (am_R 0), some (am_I a), none]) rfl rfl rfl rfl rfl rfl ?_
  refine ax_load (q := 1) rfl rfl rfl rfl rfl ?_
  refine ax_const (q := 2) (v := am_I 0) rfl rfl rfl ?_
  refine ax_putf (q := 5) rfl rfl rfl ?_
  show aW d 0 k_X8_opening Q 5 _ [] (am_sI σ 0 (am_up (σ.1 0) 14 0))
  rw [← h0]
  refine ax_load (q := 6) rfl rfl rfl rfl rfl ?_
  refine ax_load (q := 7) rfl rfl rfl rfl rfl ?_
  refine ax_getf (q := 10) (v := am_R 68) rfl rfl (rfl) ?_
  refine ax_callv (q := 13) rfl rfl rfl rfl rfl rfl ?_
  refine x_unopened (by omega) hL0 hV ?_
  refine ax_const (q := 14) (v := am_I (-1)) rfl rfl rfl ?_
  refine ax_ixor (q := 15) (z := am_xor (((bi_ (nP_ T) (sh_ v)) : Nat) : Int) (-1)) rfl rfl (rfl) ?_
  refine ax_iand (q := 16) (z := am_and a (am_xor (((bi_ (nP_ T) (sh_ v)) : Nat) : Int) (-1))) rfl rfl (rfl) ?_
  refine ax_if_eq (q := 19) (x := 21) rfl rfl (fun h16 => ?_) (fun h16 => ?_)
  · rw [oc_x hV ha.1 ha.2] at h16
    obtain ⟨s, rfl, hs, hs64⟩ := oc_lt hV h16
    refine ax_load (q := 22) rfl rfl rfl rfl rfl ?_
    refine ax_getf (q := 25) (v := am_R 123) rfl rfl (rfl) ?_
    refine ax_load (q := 26) rfl rfl rfl rfl rfl ?_
    refine ax_callv (q := 29) rfl rfl rfl rfl rfl rfl ?_
    refine x_bestOpening (by omega) hL0 hV hW hD hs hs64 (fun σ1 hf1 hk1 => ?_)
    refine ax_store (q := 30) (L' := [some (am_R 0), some (am_I ((s : Nat) : Int)), some (am_I ((of_ T v s).1))]) rfl rfl rfl rfl rfl rfl ?_
    refine ax_load (q := 31) rfl rfl rfl rfl rfl ?_
    refine ax_load (q := 32) rfl rfl rfl rfl rfl ?_
    refine ax_getf (q := 35) (v := am_R 123) rfl rfl (rfl) ?_
    refine ax_getf (q := 38) (v := am_R 124) rfl rfl (rfl) ?_
    refine ax_load (q := 39) rfl rfl rfl rfl rfl ?_
    refine ax_calls (q := 42) rfl rfl rfl rfl rfl ?_
    refine x_bitCount (by omega) hs64 ?_
    rw [← mb_eq hn6.2 hs]
    refine ax_callv (q := 45) rfl rfl rfl rfl rfl rfl ?_
    have hmb : (mb_ s (nP_ T)).length ≤ 6 := Nat.le_trans (mb_le s (nP_ T)) hn6.2
    refine x_lay124 (by omega) hmb (fun σ2 hf2 h14 h134 => ?_)
    refine ax_load (q := 46) rfl rfl rfl rfl rfl ?_
    refine ax_ret (r := some (am_I ((of_ T v s).1))) rfl rfl ?_
    have g := hY h16 σ2 (l0_tr (l0_tr hl0 (l0_fr hf1 (by simp)) (fun a h => h) (by simp) : l0_ [123, 124, 125, 126, 134] σ σ1) hf2 (fun a h => h) (by simp)) h14
    rw [Int.toNat_natCast] at g
    exact g (fun k hk => by rw [h134 k hk]; exact hk1 k hk)
  · refine ax_const (q := 20) (v := am_I (-1)) rfl rfl rfl ?_
    refine ax_ret (r := some (am_I (-1))) rfl rfl ?_
    rw [oc_x hV ha.1 ha.2] at h16
    exact hN (by rw [← Bool.not_eq_true]; exact h16) _ hl0 z0

