theorem am_andnot {a b : Nat} (ha : a < 2 ^ 31) (hb : b < 2 ^ 31) : am_and (a : Int) (am_xor (b : Int) (-1)) = ((a ^^^ (a &&& b) : Nat) : Int) := by
  unfold am_and am_xor
  have h1 : a &&& b < 2 ^ 31 := Nat.lt_of_le_of_lt Nat.and_le_left ha
  have h : a ^^^ (a &&& b) < 2 ^ 31 := Nat.xor_lt_two_pow ha h1
  rw [show Int32.ofInt (a : Int) &&& Int32.ofInt (Int32.ofInt (b : Int) ^^^ Int32.ofInt (-1)).toInt = Int32.ofInt ((a ^^^ (a &&& b) : Nat) : Int) by
    rw [Int32.ofInt_toInt]
    apply Int32.toBitVec_inj.mp
    rw [Int32.toBitVec_and, Int32.toBitVec_xor]
    have e1 : (Int32.ofInt (-1)).toBitVec = BitVec.allOnes 32 := by decide
    rw [e1, Int32.toBitVec_ofInt, Int32.toBitVec_ofInt, Int32.toBitVec_ofInt]
    apply BitVec.eq_of_getLsbD_eq
    intro i hi
    simp only [BitVec.ofInt_natCast, BitVec.getLsbD_and, BitVec.getLsbD_xor, BitVec.getLsbD_allOnes, BitVec.getLsbD_ofNat, Nat.testBit_xor, Nat.testBit_and, hi, decide_true, Bool.true_and]
    cases a.testBit i <;> cases b.testBit i <;> rfl]
  exact am_t32 (nat32 h)
theorem andnot_bi (p q : Nat → Bool) {n : Nat} (hn : n < 30) : am_and (bi_ n p : Int) (am_xor (bi_ n q : Int) (-1)) = (bi_ n (fun k => p k && !q k) : Int) := by
  have h2 : (2 : Nat) ^ n < 2 ^ 31 := Nat.pow_lt_pow_right (by decide) (by omega)
  have h3 := bi_lt p n
  have h4 := bi_lt q n
  rw [am_andnot (by omega) (by omega)]
  congr 1
  apply Nat.eq_of_testBit_eq
  intro i
  rw [Nat.testBit_xor, Nat.testBit_and, bi_tb, bi_tb, bi_tb]
  cases p i <;> cases q i <;> cases (decide (i < n)) <;> rfl
theorem cn_cg {T : sp_T} (hV : TV_ T) {v w : sp_V} (h : ∀ j, j < 50 → v j = w j) {p o : Nat} (hp : p < 6) (ho : o < nO_ T) : cn_ T v p o = cn_ T w p o := by
  have := (hV.sk ho).2.2
  unfold cn_
  rw [h _ (by omega)]
theorem an_eq {p q : Nat → Bool} : ∀ n, (∀ k, k < n → p k = q k) → an_ n p = an_ n q
  | 0, _ => rfl
  | n + 1, h => by
    show (an_ n p || p n) = (an_ n q || q n)
    rw [an_eq n (fun k hk => h k (by omega)), h n (by omega)]

theorem l_lost1 {d : Nat} (hd : 1 ≤ d) {σ : am_S} {T : sp_T} (hT : TM_ T σ) (hV : TV_ T) {p : Nat} (hp : p < nP_ T) {Q : Option am_V → am_S → Prop} (hQ : aW d 0 k_X9_lost Q 60 [some (am_R 135), some (am_I ((p : Nat) : Int)), some (am_I ((bi_ ((nO_ T)) (fun o => decide (0 < T 158 (8 * pa_ T p + o))) : Nat) : Int)), some (am_I (((nO_ T) : Nat) : Int)), none] [] σ) : ∀ (m k : Nat), k + m = nO_ T → aW d 0 k_X9_lost Q 14 [some (am_R 135), some (am_I ((p : Nat) : Int)), some (am_I ((bi_ k (fun o => decide (0 < T 158 (8 * pa_ T p + o))) : Nat) : Int)), some (am_I ((k : Nat) : Int)), none] [] σ := by
  have h6 := hV.nP
  have hn := hV.nO
  have hR := hV.nR
  have hpa := hV.pa hp
  intro m
  induction m with
  | zero =>
    intro k hk
    obtain rfl : k = nO_ T := by omega
    refine ax_load (q := 15) rfl rfl rfl rfl rfl ?_
    refine ax_load (q := 16) rfl rfl rfl rfl rfl ?_
    refine ax_getf (q := 19) (v := am_I ((nO_ T : Nat) : Int)) rfl rfl (am_fg rfl (hT.s51.trans hV.nO.1)) ?_
    refine ax_icmp_ge (q := 22) (x := 60) rfl rfl (fun h19 => ?_) (fun h => absurd h (by omega))
    exact hQ
  | succ m ih =>
    intro k hk
    refine ax_load (q := 15) rfl rfl rfl rfl rfl ?_
    refine ax_load (q := 16) rfl rfl rfl rfl rfl ?_
    refine ax_getf (q := 19) (v := am_I ((nO_ T : Nat) : Int)) rfl rfl (am_fg rfl (hT.s51.trans hV.nO.1)) ?_
    refine ax_icmp_ge (q := 22) (x := 60) rfl rfl (fun h => absurd h (by omega)) (fun h19 => ?_)
    refine ax_load (q := 23) rfl rfl rfl rfl rfl ?_
    refine ax_load (q := 24) rfl rfl rfl rfl rfl ?_
    refine ax_getf (q := 27) (v := am_R 158) rfl rfl (rfl) ?_
    refine ax_const (q := 29) (v := am_I 8) rfl rfl rfl ?_
    refine ax_load (q := 30) rfl rfl rfl rfl rfl ?_
    refine ax_getf (q := 33) (v := am_R 162) rfl rfl (rfl) ?_
    refine ax_load (q := 34) rfl rfl rfl rfl rfl ?_
    refine bx_iald (q := 35) (k := p) (z := ((pa_ T p : Nat) : Int)) rfl rfl (rfl) (by omega) (by omega) ((congrFun hT.a162 _).trans (hV.pa (by omega)).1) ?_
    refine ax_imul (q := 36) (z := ((8 * (pa_ T p) : Nat) : Int)) rfl rfl (am_we (by omega) (by omega) (by omega)) ?_
    refine ax_load (q := 37) rfl rfl rfl rfl rfl ?_
    refine ax_iadd (q := 38) (z := (((8 * (pa_ T p)) + k : Nat) : Int)) rfl rfl (am_we (by omega) (by omega) (by omega)) ?_
    refine bx_iald (q := 39) (k := (8 * (pa_ T p)) + k) (z := T 158 ((8 * (pa_ T p)) + k)) rfl rfl (rfl) (by omega) (by omega) (congrFun hT.a158 _) ?_
    refine ax_if_le (q := 42) (x := 46) rfl rfl (fun h39 => ?_) (fun h39 => ?_)
    · have hb39 : decide (0 < T 158 (8 * pa_ T p + k)) = false := decide_eq_false (by omega)
      refine ax_const (q := 47) (v := am_I 0) rfl rfl rfl ?_
      refine ax_calls (q := 50) rfl rfl rfl rfl rfl ?_
      refine m_truthz (by omega) (Or.inl rfl) ?_
      refine ax_load (q := 51) rfl rfl rfl rfl rfl ?_
      refine ax_ishl (q := 52) (z := am_shl 0 (k : Int)) rfl rfl (rfl) ?_
      refine ax_ior (q := 53) (z := ((bi_ (k + 1) (fun o => decide (0 < T 158 (8 * pa_ T p + o))) : Nat) : Int)) rfl rfl ((congrArg (fun z => am_or _ (am_shl z _)) (by show (0 : Int) = if decide (0 < T 158 (8 * pa_ T p + k)) = true then 1 else 0; rw [hb39]; rfl)).trans (am_or_bi (fun o => decide (0 < T 158 (8 * pa_ T p + o))) (by omega))) ?_
      refine ax_store (q := 54) (L' := [some (am_R 135), some (am_I ((p : Nat) : Int)), some (am_I ((bi_ (k + 1) (fun o => decide (0 < T 158 (8 * pa_ T p + o))) : Nat) : Int)), some (am_I ((k : Nat) : Int)), none]) rfl rfl rfl rfl rfl rfl ?_
      refine ax_iinc (q := 57) (z' := ((k + 1 : Nat) : Int)) (L' := [some (am_R 135), some (am_I ((p : Nat) : Int)), some (am_I ((bi_ (k + 1) (fun o => decide (0 < T 158 (8 * pa_ T p + o))) : Nat) : Int)), some (am_I ((k + 1 : Nat) : Int)), none]) rfl rfl rfl rfl (am_we (by omega) (by omega) (by omega)) rfl ?_
      refine ax_goto (x := 14) rfl ?_
      exact ih (k + 1) (by omega)
    · have hb39 : decide (0 < T 158 (8 * pa_ T p + k)) = true := decide_eq_true (by omega)
      refine ax_const (q := 43) (v := am_I 1) rfl rfl rfl ?_
      refine ax_goto (x := 47) rfl ?_
      refine ax_calls (q := 50) rfl rfl rfl rfl rfl ?_
      refine m_truthz (by omega) (Or.inr rfl) ?_
      refine ax_load (q := 51) rfl rfl rfl rfl rfl ?_
      refine ax_ishl (q := 52) (z := am_shl 1 (k : Int)) rfl rfl (rfl) ?_
      refine ax_ior (q := 53) (z := ((bi_ (k + 1) (fun o => decide (0 < T 158 (8 * pa_ T p + o))) : Nat) : Int)) rfl rfl ((congrArg (fun z => am_or _ (am_shl z _)) (by show (1 : Int) = if decide (0 < T 158 (8 * pa_ T p + k)) = true then 1 else 0; rw [hb39]; rfl)).trans (am_or_bi (fun o => decide (0 < T 158 (8 * pa_ T p + o))) (by omega))) ?_
      refine ax_store (q := 54) (L' := [some (am_R 135), some (am_I ((p : Nat) : Int)), some (am_I ((bi_ (k + 1) (fun o => decide (0 < T 158 (8 * pa_ T p + o))) : Nat) : Int)), some (am_I ((k : Nat) : Int)), none]) rfl rfl rfl rfl rfl rfl ?_
      refine ax_iinc (q := 57) (z' := ((k + 1 : Nat) : Int)) (L' := [some (am_R 135), some (am_I ((p : Nat) : Int)), some (am_I ((bi_ (k + 1) (fun o => decide (0 < T 158 (8 * pa_ T p + o))) : Nat) : Int)), some (am_I ((k + 1 : Nat) : Int)), none]) rfl rfl rfl rfl (am_we (by omega) (by omega) (by omega)) rfl ?_
      refine ax_goto (x := 14) rfl ?_
      exact ih (k + 1) (by omega)

theorem l_lost2 {d : Nat} (hd : 6 ≤ d) {σ : am_S} {T : sp_T} (hT : TM_ T σ) (hV : TV_ T) {b : Int} {v : sp_V} (hW : VV_ T b v) (hb9 : b ≤ 100000) {p : Nat} (hp : p < nP_ T) {z : Int} (hz : z < T 135 50) {x : Int} {s : Nat} (hsz : (s : Int) = z) {Q : Option am_V → am_S → Prop} {N : Nat} (hN : N ≤ 100) (hQ : ∀ σ', fr_ [143, 144, 164] σ σ' → σ'.1 164 = gz_ T v p z N → aW d 0 k_X9_lost Q 98 [some (am_R 135), some (am_I ((p : Nat) : Int)), some (am_I x), some (am_I ((s : Nat) : Int)), some (am_I ((0 : Nat) : Int))] [] σ') : ∀ (k n : Nat) σ', fr_ [143, 144, 164] σ σ' → σ'.1 164 = gz_ T v p z n → n + k = N → aW d 0 k_X9_lost Q 81 [some (am_R 135), some (am_I ((p : Nat) : Int)), some (am_I x), some (am_I ((s : Nat) : Int)), some (am_I ((k : Nat) : Int))] [] σ' := by
  have h6 := hV.nP
  intro k
  induction k with
  | zero =>
    intro n σ' hf hx hn
    obtain rfl : n = N := by omega
    refine ax_load (q := 83) rfl rfl rfl rfl rfl ?_
    refine ax_if_le (q := 86) (x := 98) rfl rfl (fun h83 => ?_) (fun h => absurd h (by omega))
    exact hQ σ' hf hx
  | succ k ih =>
    intro n σ' hf hx hn
    refine ax_load (q := 83) rfl rfl rfl rfl rfl ?_
    refine ax_if_le (q := 86) (x := 98) rfl rfl (fun h => absurd h (by omega)) (fun h83 => ?_)
    refine ax_load (q := 87) rfl rfl rfl rfl rfl ?_
    refine ax_load (q := 88) rfl rfl rfl rfl rfl ?_
    refine ax_load (q := 89) rfl rfl rfl rfl rfl ?_
    refine ax_callv (q := 92) rfl rfl rfl rfl rfl rfl ?_
    subst hsz
    refine m_goAlone (by omega) (hT.fr hf (by decide)) hV hx (hW.gz hV hp hz n) hp hz (by omega) (fun σ1 hf1 hx1 => ?_)
    refine ax_iinc (q := 95) (z' := ((k : Nat) : Int)) (L' := [some (am_R 135), some (am_I ((p : Nat) : Int)), some (am_I x), some (am_I ((s : Nat) : Int)), some (am_I ((k : Nat) : Int))]) rfl rfl rfl rfl (am_we (by omega) (by omega) (by omega)) rfl ?_
    refine ax_goto (x := 81) rfl ?_
    exact ih (n + 1) σ1 (fr_tr hf hf1 (fun a h => h)) hx1 (by omega)

theorem ga_cg {T : sp_T} (hV : TV_ T) {v w : sp_V} (h : ∀ j, j < 50 → v j = w j) {p : Nat} (hp : p < 6) {z : Int} (hz : z < T 135 50) : ∀ j, j < 50 → ga_ T v p z j = ga_ T w p z j := by
  have hS := hV.nS
  have hl : ∀ j, j < 50 → ln_ T v p z j = ln_ T w p z j := by
    intro j hj
    unfold ln_
    split
    · exact h j hj
    · rw [h (24 + 4 * p + z.toNat) (by omega), h p (by omega), h 49 (by omega)]
      by_cases q : j = 24 + 4 * p + z.toNat
      · subst q; rw [am_up_same, am_up_same]
      · rw [am_up_ne q, am_up_ne q]; exact h j hj
  intro j hj
  unfold ga_
  rw [hl p (by omega), hl 49 (by omega)]
  by_cases q : j = 49
  · subst q; rw [am_up_same, am_up_same]
  · rw [am_up_ne q, am_up_ne q]
    by_cases q2 : j = p
    · subst q2; rw [am_up_same, am_up_same]
    · rw [am_up_ne q2, am_up_ne q2]; exact hl j hj
theorem gz_cg {T : sp_T} (hV : TV_ T) {v w : sp_V} (h : ∀ j, j < 50 → v j = w j) {p : Nat} (hp : p < 6) {z : Int} (hz : z < T 135 50) : ∀ n j, j < 50 → gz_ T v p z n j = gz_ T w p z n j
  | 0 => h
  | n + 1 => ga_cg hV (gz_cg hV h hp hz n) hp hz
theorem lo_st {T : sp_T} (hV : TV_ T) {u v w : sp_V} (hv : ∀ j, j < 50 → v j = w j) (hu : ∀ j, j < 50 → u j = w j) {p k : Nat} (hk : p < 6 ∧ k < nS_ T) : am_and (lo_ T v p k : Int) (am_xor (cs_ T (gz_ T u p (k : Int) (yf_ T w p)) p : Int) (-1)) = (lo_ T v p (k + 1) : Int) := by
  have hO := hV.nO
  have hS := hV.nS
  unfold lo_ cs_
  rw [andnot_bi _ _ (by omega)]
  congr 1
  apply bi_eq
  intro o ho
  have e : cn_ T (gz_ T u p (k : Int) (yf_ T w p)) p o = cn_ T (gz_ T v p (k : Int) (yf_ T v p)) p o := by
    rw [yf_cg (hv p (by omega))]
    exact cn_cg hV (gz_cg hV (fun j hj => (hu j hj).trans (hv j hj).symm) hk.1 (by omega) _) hk.1 ho
  show ((decide (0 < T 158 (8 * pa_ T p + o)) && !an_ k (fun s => cn_ T (gz_ T v p s (yf_ T v p)) p o)) && !cn_ T (gz_ T u p (k : Int) (yf_ T w p)) p o) = (decide (0 < T 158 (8 * pa_ T p + o)) && !(an_ k (fun s => cn_ T (gz_ T v p s (yf_ T v p)) p o) || cn_ T (gz_ T v p (k : Int) (yf_ T v p)) p o))
  rw [e, Bool.not_or, Bool.and_assoc]
theorem l_lost3 {d : Nat} (hd : 6 ≤ d) {σ : am_S} {T : sp_T} (hT : TM_ T σ) (hV : TV_ T) {b : Int} {v w : sp_V} (hw : σ.1 163 = w) (hvw : ∀ j, j < 50 → v j = w j) (hW : VV_ T b w) (hb9 : b ≤ 100000) {p : Nat} (hp : p < nP_ T) {Q : Option am_V → am_S → Prop} (hQ : ∀ σ', fr_ [143, 144, 164] σ σ' → Q (some (am_I ((lo_ T v p (nS_ T) : Nat) : Int))) σ') : ∀ (m k : Nat) σ' (o4 : Option am_V), k + m = nS_ T → fr_ [143, 144, 164] σ σ' → aW d 0 k_X9_lost Q 62 [some (am_R 135), some (am_I ((p : Nat) : Int)), some (am_I ((lo_ T v p k : Nat) : Int)), some (am_I ((k : Nat) : Int)), o4] [] σ' := by
  have h6 := hV.nP
  have hn := hV.nS
  have hO := hV.nO
  intro m
  induction m with
  | zero =>
    intro k σ' o4 hk hf
    obtain rfl : k = nS_ T := by omega
    refine ax_load (q := 63) rfl rfl rfl rfl rfl ?_
    refine ax_load (q := 64) rfl rfl rfl rfl rfl ?_
    refine ax_getf (q := 67) (v := am_I ((nS_ T : Nat) : Int)) rfl rfl (am_fg rfl ((hT.fr hf (by decide)).s50.trans hV.nS.1)) ?_
    refine ax_icmp_ge (q := 70) (x := 114) rfl rfl (fun h67 => ?_) (fun h => absurd h (by omega))
    refine ax_load (q := 115) rfl rfl rfl rfl rfl ?_
    refine ax_ret (r := some (am_I ((lo_ T v p ((nS_ T)) : Nat) : Int))) rfl rfl ?_
    exact hQ σ' hf
  | succ m ih =>
    intro k σ' o4 hk hf
    refine ax_load (q := 63) rfl rfl rfl rfl rfl ?_
    refine ax_load (q := 64) rfl rfl rfl rfl rfl ?_
    refine ax_getf (q := 67) (v := am_I ((nS_ T : Nat) : Int)) rfl rfl (am_fg rfl ((hT.fr hf (by decide)).s50.trans hV.nS.1)) ?_
    refine ax_icmp_ge (q := 70) (x := 114) rfl rfl (fun h => absurd h (by omega)) (fun h67 => ?_)
    refine ax_load (q := 71) rfl rfl rfl rfl rfl ?_
    refine ax_callv (q := 74) rfl rfl rfl rfl rfl rfl ?_
    refine m_load (by omega) ?_
    rw [hf.1 163 (by decide), hw]
    refine ax_load (q := 75) rfl rfl rfl rfl rfl ?_
    refine ax_load (q := 76) rfl rfl rfl rfl rfl ?_
    refine ax_callv (q := 79) rfl rfl rfl rfl rfl rfl ?_
    refine m_yearsLeft (by omega) (TM_.sI (hT.fr hf (by decide)) (by decide)) hV ((sI_ne (by decide)).trans ((hf.1 163 (by decide)).trans hw)) (by omega) (by have := (hW.2.2 p hp).1; omega) ?_
    refine ax_store (q := 81) (L' := [some (am_R 135), some (am_I ((p : Nat) : Int)), some (am_I ((lo_ T v p k : Nat) : Int)), some (am_I ((k : Nat) : Int)), some (am_I ((yf_ T w p : Nat) : Int))]) rfl rfl rfl rfl rfl rfl ?_
    obtain ⟨u, hu⟩ : ∃ u, u = cp_ w (σ'.1 164) 50 := ⟨_, rfl⟩
    have huw : ∀ j, j < 50 → u j = w j := fun j hj => by rw [hu]; exact cp_at hj
    rw [← hu]
    have hWu : VV_ T b u := hW.cg hV huw
    have hy1 : yf_ T w p ≤ 60 := (yf_bd hV hW hp).2
    refine l_lost2 (σ := am_sI σ' 164 u) (by omega) (TM_.sI (hT.fr hf (by decide)) (by decide)) hV hWu hb9 hp (z := (k : Int)) (by omega) (x := ((lo_ T v p k : Nat) : Int)) rfl (N := yf_ T w p) (by omega) (fun σ1 hf1' hx1 => ?_) (yf_ T w p) 0 _ (fr_rf _ _) (sI_at _ _ _) (by omega)
    have hf1 : fr_ [143, 144, 164] σ' σ1 := fr_tr (l := [143, 144, 164]) (fr_sI (fr_rf _ _) (by decide)) hf1' (fun a h => h)
    refine ax_load (q := 99) rfl rfl rfl rfl rfl ?_
    refine ax_load (q := 100) rfl rfl rfl rfl rfl ?_
    refine ax_load (q := 101) rfl rfl rfl rfl rfl ?_
    refine ax_callv (q := 104) rfl rfl rfl rfl rfl rfl ?_
    refine m_canSet (by omega) ((hT.fr hf (by decide)).fr hf1 (by decide)) hV hx1 (by omega) ?_
    refine ax_const (q := 105) (v := am_I (-1)) rfl rfl rfl ?_
    refine ax_ixor (q := 106) (z := am_xor ((cs_ T (gz_ T u p (k : Int) (yf_ T w p)) p : Nat) : Int) (-1)) rfl rfl (rfl) ?_
    refine ax_iand (q := 107) (z := ((lo_ T v p (k + 1) : Nat) : Int)) rfl rfl (lo_st hV hvw huw (by omega)) ?_
    refine ax_store (q := 108) (L' := [some (am_R 135), some (am_I ((p : Nat) : Int)), some (am_I ((lo_ T v p (k + 1) : Nat) : Int)), some (am_I ((k : Nat) : Int)), some (am_I ((0 : Nat) : Int))]) rfl rfl rfl rfl rfl rfl ?_
    refine ax_iinc (q := 111) (z' := ((k + 1 : Nat) : Int)) (L' := [some (am_R 135), some (am_I ((p : Nat) : Int)), some (am_I ((lo_ T v p (k + 1) : Nat) : Int)), some (am_I ((k + 1 : Nat) : Int)), some (am_I ((0 : Nat) : Int))]) rfl rfl rfl rfl (am_we (by omega) (by omega) (by omega)) rfl ?_
    refine ax_goto (x := 62) rfl ?_
    exact ih (k + 1) σ1 _ (by omega) (fr_tr hf hf1 (fun a h => h))

theorem m_lost {d : Nat} (hd : 8 ≤ d) {σ : am_S} {T : sp_T} (hT : TM_ T σ) (hV : TV_ T) {b : Int} {w v : sp_V} (hw : σ.1 163 = w) (hv : v = cp_ w (σ.1 164) 50) (hW : VV_ T b w) (hb9 : b ≤ 100000) {a : Int} {Q : Option am_V → am_S → Prop} (hQ : ∀ σ', fr_ [143, 144, 164] σ σ' → Q (some (am_I (F_lost T v a))) σ') : am_Ev d 230 [am_R 135, am_I a] σ Q := by
  obtain ⟨d, rfl⟩ : ∃ e, d = e + 1 := ⟨d - 1, by omega⟩
  have h6 := hV.nP
  have hO := hV.nO
  have hS := hV.nS
  have hR := hV.nR
  have hvw : ∀ j, j < 50 → v j = w j := fun j hj => by rw [hv]; exact cp_at hj
  have hW2 : VV_ T b v := hW.cg hV hvw
  refine ev_in (m := 230) (c := k_X9_lost) (L := [some (am_R 135), some (am_I a), none, none, none]) rfl rfl rfl rfl rfl rfl ?_
  refine ax_load (q := 1) rfl rfl rfl rfl rfl ?_
  refine ax_load (q := 2) rfl rfl rfl rfl rfl ?_
  refine ax_callv (q := 5) rfl rfl rfl rfl rfl rfl ?_
  refine m_isShutNow (by omega) hT hV hw ?_
  rw [← sn_cg hV hvw]
  refine ax_if_ne (q := 8) (x := 10) rfl rfl (fun h5 => ?_) (fun h5 => ?_)
  · have hb5 := it_n0 h5
    obtain ⟨p, rfl, hp, hsp⟩ := sn_t hb5
    refine ax_const (q := 11) (v := am_I 0) rfl rfl rfl ?_
    refine ax_store (q := 12) (L' := [some (am_R 135), some (am_I ((p : Nat) : Int)), some (am_I 0), none, none]) rfl rfl rfl rfl rfl rfl ?_
    refine ax_const (q := 13) (v := am_I 0) rfl rfl rfl ?_
    refine ax_store (q := 14) (L' := [some (am_R 135), some (am_I ((p : Nat) : Int)), some (am_I 0), some (am_I 0), none]) rfl rfl rfl rfl rfl rfl ?_
    refine l_lost1 (by omega) hT hV hp ?_ (nO_ T) 0 (by omega)
    refine ax_const (q := 61) (v := am_I 0) rfl rfl rfl ?_
    refine ax_store (q := 62) (L' := [some (am_R 135), some (am_I ((p : Nat) : Int)), some (am_I ((bi_ ((nO_ T)) (fun o => decide (0 < T 158 (8 * pa_ T p + o))) : Nat) : Int)), some (am_I 0), none]) rfl rfl rfl rfl rfl rfl ?_
    have e : F_lost T v (p : Int) = ((lo_ T v p (nS_ T) : Nat) : Int) := by unfold F_lost; rw [hb5]; rfl
    rw [e] at hQ
    have g := l_lost3 (d := d) (by omega) hT hV hw hvw hW hb9 hp hQ (nS_ T) 0 σ none (by omega) (fr_rf _ _)
    rw [show lo_ T v p 0 = bi_ (nO_ T) (fun o => decide (0 < T 158 (8 * pa_ T p + o))) by unfold lo_; exact bi_eq _ (fun o ho => by show (decide _ && !false) = _; simp)] at g
    exact g
  · have hb5 := it_0 h5
    refine ax_const (q := 9) (v := am_I (-1)) rfl rfl rfl ?_
    refine ax_ret (r := some (am_I (-1))) rfl rfl ?_
    have e : F_lost T v a = -1 := by unfold F_lost; rw [hb5]; rfl
    rw [← e]
    exact hQ _ (fr_rf _ _)

