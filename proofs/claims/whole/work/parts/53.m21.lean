/-! what rows are worth -/
def RG_ (M : List Nat) (σ : am_S) : Prop := ∀ k, k < M.length → σ.1 169 k = (M.getD k 0 : Int)
def ow_ (T : sp_T) (v : sp_V) (M l : List Nat) (k : Nat) : Int := ho_ T v (M.getD k 0) (l.getD k 0)
def rg_ (T : sp_T) (v : sp_V) (M l : List Nat) : Int := if an_ M.length (fun k => decide (ow_ T v M l k < ow_ T v M M k)) then -1 else su_ M.length (ow_ T v M l)
theorem an_mono {p : Nat → Bool} {k : Nat} (h : an_ k p = true) : ∀ m, an_ (k + m) p = true
  | 0 => h
  | m + 1 => by
    show (an_ (k + m) p || p (k + m)) = true
    rw [an_mono h m, Bool.true_or]
theorem ho_bd {T : sp_T} {b : Int} {v : sp_V} (hV : TV_ T) (hW : VV_ T b v) {p l : Nat} (hl : l < nP_ T) : 0 ≤ ho_ T v p l ∧ ho_ T v p l ≤ 9 := by
  have h1 := (hW.2.2 l hl).2.1
  have h2 := hV.nO
  unfold ho_
  split
  · omega
  · have := hV.wo (o := (v (6 + l)).toNat) (by omega)
    split <;> omega
def ob_ (T : sp_T) (v : sp_V) (l : List Nat) : Nat → sp_V
  | 0 => v
  | k + 1 => op_ T (ob_ T v l k) (l.getD k 0)
def db_ (T : sp_T) (v : sp_V) (l : List Nat) : Nat := ct_ l.length (fun k => decide (ob_ T v l (k + 1) (12 + l.getD k 0) = 2))
theorem VV_.ob {T : sp_T} {b : Int} {v : sp_V} (h : VV_ T b v) (hV : TV_ T) {l : List Nat} (hl : ∀ k, k < l.length → l.getD k 0 < nP_ T) : ∀ k, k ≤ l.length → VV_ T b (ob_ T v l k)
  | 0, _ => h
  | k + 1, hk => (VV_.ob h hV hl k (by omega)).op hV (hl k (by omega))
theorem op_cg {T : sp_T} {b : Int} (hV : TV_ T) {v w : sp_V} (h : ∀ j, j < 50 → v j = w j) {p : Nat} (hp : p < nP_ T) (hW : VV_ T b w) : ∀ j, j < 50 → op_ T v p j = op_ T w p j := by
  have h6 := hV.nP
  have hO := hV.nO
  have h1 := (hW.2.2 p hp).2.1
  have eu : ∀ o, ud_ T v o = ud_ T w o := fun o => by unfold ud_; rw [h 48 (by omega)]
  have up2 : ∀ (x y : sp_V) (k : Nat) (z : Int), (∀ j, j < 50 → x j = y j) → ∀ j, j < 50 → am_up x k z j = am_up y k z j := fun x y k z hh j hj => by
    by_cases q : j = k
    · subst q; rw [am_up_same, am_up_same]
    · rw [am_up_ne q, am_up_ne q]; exact hh j hj
  intro j hj
  unfold op_
  rw [h (6 + p) (by omega), h 48 (by omega), eu]
  split
  · exact up2 _ _ _ _ h j hj
  · next q =>
    rw [cn_cg hV h (by omega) (show (w (6 + p)).toNat < nO_ T by omega)]
    split
    · exact up2 _ _ _ _ (up2 _ _ _ _ h) j hj
    · exact up2 _ _ _ _ h j hj
theorem ob_cg {T : sp_T} {b : Int} (hV : TV_ T) {v w : sp_V} (h : ∀ j, j < 50 → v j = w j) (hW : VV_ T b w) {l : List Nat} (hl : ∀ k, k < l.length → l.getD k 0 < nP_ T) : ∀ k, k ≤ l.length → ∀ j, j < 50 → ob_ T v l k j = ob_ T w l k j
  | 0, _ => h
  | k + 1, hk => op_cg hV (ob_cg hV h hW hl k (by omega)) (hl k (by omega)) (hW.ob hV hl k (by omega))
theorem db_cg {T : sp_T} {b : Int} (hV : TV_ T) {v w : sp_V} (h : ∀ j, j < 50 → v j = w j) (hW : VV_ T b w) {l : List Nat} (hl : ∀ k, k < l.length → l.getD k 0 < nP_ T) : db_ T v l = db_ T w l := by
  have h6 := hV.nP
  unfold db_
  exact ct_eq _ (fun k hk => by rw [ob_cg hV h hW hl (k + 1) (by omega) _ (by have := hl k hk; omega)])

theorem l_ringWorth {d : Nat} (hd : 3 ≤ d) {σ : am_S} {T : sp_T} (hT : TM_ T σ) (hV : TV_ T) {b : Int} {v : sp_V} (ha : σ.1 164 = v) (hW : VV_ T b v) {M l : List Nat} (hM : RG_ M σ) (hl : WL_ l σ) (hlen : l.length = M.length) (hMp : ∀ k, k < M.length → M.getD k 0 < nP_ T) (hlp : ∀ k, k < M.length → l.getD k 0 < nP_ T) {Q : Option am_V → am_S → Prop} (hQ : Q (some (am_I (rg_ T v M l))) σ) : ∀ (m k : Nat) (o4 : Option am_V), k + m = M.length → an_ k (fun k => decide (ow_ T v M l k < ow_ T v M M k)) = false → aW d 0 k_X9_ringWorth Q 4 [some (am_R 135), some (am_I ((M.length : Nat) : Int)), some (am_I (su_ k (ow_ T v M l))), some (am_I ((k : Nat) : Int)), o4] [] σ := by
  have h66 := hl.1
  have h6 := hV.nP
  intro m
  induction m with
  | zero =>
    intro k o4 hk han
    obtain rfl : k = M.length := by omega
    refine ax_load (q := 5) rfl rfl rfl rfl rfl ?_
    refine ax_load (q := 6) rfl rfl rfl rfl rfl ?_
    refine ax_icmp_ge (q := 9) (x := 61) rfl rfl (fun h6 => ?_) (fun h => absurd h (by omega))
    refine ax_load (q := 62) rfl rfl rfl rfl rfl ?_
    refine ax_ret (r := some (am_I (su_ (M.length) (ow_ T v M l)))) rfl rfl ?_
    rw [show rg_ T v M l = su_ M.length (ow_ T v M l) from if_neg (by rw [han]; decide)] at hQ
    exact hQ
  | succ m ih =>
    intro k o4 hk han
    have hb1 := su_bd (f := ow_ T v M l) (b := 9) (by omega) k (fun j hj => ho_bd hV hW (hlp j (by omega)))
    have hb2 : 0 ≤ ow_ T v M l k ∧ ow_ T v M l k ≤ 9 := ho_bd hV hW (hlp k (by omega))
    refine ax_load (q := 5) rfl rfl rfl rfl rfl ?_
    refine ax_load (q := 6) rfl rfl rfl rfl rfl ?_
    refine ax_icmp_ge (q := 9) (x := 61) rfl rfl (fun h => absurd h (by omega)) (fun h6 => ?_)
    refine ax_load (q := 10) rfl rfl rfl rfl rfl ?_
    refine ax_load (q := 11) rfl rfl rfl rfl rfl ?_
    refine ax_getf (q := 14) (v := am_R 169) rfl rfl (rfl) ?_
    refine ax_load (q := 15) rfl rfl rfl rfl rfl ?_
    refine bx_iald (q := 16) (k := k) (z := ((M.getD k 0 : Nat) : Int)) rfl rfl (rfl) (by omega) (by omega) (hM k (by omega)) ?_
    refine ax_load (q := 17) rfl rfl rfl rfl rfl ?_
    refine ax_getf (q := 20) (v := am_R 168) rfl rfl (rfl) ?_
    refine ax_load (q := 21) rfl rfl rfl rfl rfl ?_
    refine bx_iald (q := 22) (k := k) (z := ((l.getD k 0 : Nat) : Int)) rfl rfl (rfl) (by omega) (by omega) (hl.2 k (by omega)) ?_
    refine ax_callv (q := 25) rfl rfl rfl rfl rfl rfl ?_
    refine m_hasOf (by omega) hT hV ha hW (hMp k (by omega)) (hlp k (by omega)) ?_
    refine ax_store (q := 27) (L' := [some (am_R 135), some (am_I ((M.length : Nat) : Int)), some (am_I (su_ k (ow_ T v M l))), some (am_I ((k : Nat) : Int)), some (am_I (ow_ T v M l k))]) rfl rfl rfl rfl rfl rfl ?_
    refine ax_load (q := 29) rfl rfl rfl rfl rfl ?_
    refine ax_load (q := 30) rfl rfl rfl rfl rfl ?_
    refine ax_load (q := 31) rfl rfl rfl rfl rfl ?_
    refine ax_getf (q := 34) (v := am_R 169) rfl rfl (rfl) ?_
    refine ax_load (q := 35) rfl rfl rfl rfl rfl ?_
    refine bx_iald (q := 36) (k := k) (z := ((M.getD k 0 : Nat) : Int)) rfl rfl (rfl) (by omega) (by omega) (hM k (by omega)) ?_
    refine ax_load (q := 37) rfl rfl rfl rfl rfl ?_
    refine ax_getf (q := 40) (v := am_R 169) rfl rfl (rfl) ?_
    refine ax_load (q := 41) rfl rfl rfl rfl rfl ?_
    refine bx_iald (q := 42) (k := k) (z := ((M.getD k 0 : Nat) : Int)) rfl rfl (rfl) (by omega) (by omega) (hM k (by omega)) ?_
    refine ax_callv (q := 45) rfl rfl rfl rfl rfl rfl ?_
    refine m_hasOf (by omega) hT hV ha hW (hMp k (by omega)) (hMp k (by omega)) ?_
    refine ax_icmp_ge (q := 48) (x := 50) rfl rfl (fun h45 => ?_) (fun h45 => ?_)
    · have h45 : ow_ T v M M k ≤ ow_ T v M l k := h45
      refine ax_load (q := 51) rfl rfl rfl rfl rfl ?_
      refine ax_load (q := 53) rfl rfl rfl rfl rfl ?_
      refine ax_iadd (q := 54) (z := su_ k (ow_ T v M l) + (ow_ T v M l k)) rfl rfl (am_we (by omega) (by omega) (by omega)) ?_
      refine ax_store (q := 55) (L' := [some (am_R 135), some (am_I ((M.length : Nat) : Int)), some (am_I (su_ k (ow_ T v M l) + (ow_ T v M l k))), some (am_I ((k : Nat) : Int)), some (am_I (ow_ T v M l k))]) rfl rfl rfl rfl rfl rfl ?_
      refine ax_iinc (q := 58) (z' := ((k + 1 : Nat) : Int)) (L' := [some (am_R 135), some (am_I ((M.length : Nat) : Int)), some (am_I (su_ k (ow_ T v M l) + (ow_ T v M l k))), some (am_I ((k + 1 : Nat) : Int)), some (am_I (ow_ T v M l k))]) rfl rfl rfl rfl (am_we (by omega) (by omega) (by omega)) rfl ?_
      refine ax_goto (x := 4) rfl ?_
      exact ih (k + 1) _ (by omega) (by show (an_ k _ || decide (ow_ T v M l k < ow_ T v M M k)) = false; rw [han, decide_eq_false (show ¬ ow_ T v M l k < ow_ T v M M k by omega)]; rfl)
    · have h45 : ow_ T v M l k < ow_ T v M M k := h45
      refine ax_const (q := 49) (v := am_I (-1)) rfl rfl rfl ?_
      refine ax_ret (r := some (am_I (-1))) rfl rfl ?_
      have e : an_ M.length (fun k => decide (ow_ T v M l k < ow_ T v M M k)) = true := by
        rw [show M.length = (k + 1) + m by omega]
        refine an_mono ?_ m
        show (an_ k _ || decide (ow_ T v M l k < ow_ T v M M k)) = true
        rw [decide_eq_true (show ow_ T v M l k < ow_ T v M M k by omega), Bool.or_true]
      rw [show rg_ T v M l = -1 from if_pos e] at hQ
      exact hQ

theorem m_ringWorth {d : Nat} (hd : 4 ≤ d) {σ : am_S} {T : sp_T} (hT : TM_ T σ) (hV : TV_ T) {b : Int} {v : sp_V} (ha : σ.1 164 = v) (hW : VV_ T b v) {M l : List Nat} (hM : RG_ M σ) (hl : WL_ l σ) (hlen : l.length = M.length) (hMp : ∀ k, k < M.length → M.getD k 0 < nP_ T) (hlp : ∀ k, k < M.length → l.getD k 0 < nP_ T) {Q : Option am_V → am_S → Prop} (hQ : Q (some (am_I (rg_ T v M l))) σ) : am_Ev d 242 [am_R 135, am_I ((M.length : Nat) : Int)] σ Q := by
  obtain ⟨d, rfl⟩ : ∃ e, d = e + 1 := ⟨d - 1, by omega⟩
  refine ev_in (m := 242) (c := k_X9_ringWorth) (L := [some (am_R 135), some (am_I ((M.length : Nat) : Int)), none, none, none]) rfl rfl rfl rfl rfl rfl ?_
  refine ax_const (q := 1) (v := am_I 0) rfl rfl rfl ?_
  refine ax_store (q := 2) (L' := [some (am_R 135), some (am_I ((M.length : Nat) : Int)), some (am_I 0), none, none]) rfl rfl rfl rfl rfl rfl ?_
  refine ax_const (q := 3) (v := am_I 0) rfl rfl rfl ?_
  refine ax_store (q := 4) (L' := [some (am_R 135), some (am_I ((M.length : Nat) : Int)), some (am_I 0), some (am_I 0), none]) rfl rfl rfl rfl rfl rfl ?_
  exact l_ringWorth (by omega) hT hV ha hW hM hl hlen hMp hlp hQ M.length 0 none (by omega) rfl

theorem l_doneBy {d : Nat} (hd : 5 ≤ d) {σ : am_S} {T : sp_T} (hT : TM_ T σ) (hV : TV_ T) {b : Int} {v : sp_V} (hW : VV_ T b v) {l : List Nat} (hl : WL_ l σ) (hlp : ∀ k, k < l.length → l.getD k 0 < nP_ T) {Q : Option am_V → am_S → Prop} (hQ : ∀ σ', fr_ [164] σ σ' → Q (some (am_I ((db_ T v l : Nat) : Int))) σ') : ∀ (m k : Nat) σ', k + m = l.length → fr_ [164] σ σ' → σ'.1 164 = ob_ T v l k → aW d 0 k_X9_doneBy Q 8 [some (am_R 135), some (am_I ((l.length : Nat) : Int)), some (am_I ((ct_ k (fun k => decide (ob_ T v l (k + 1) (12 + l.getD k 0) = 2)) : Nat) : Int)), some (am_I ((k : Nat) : Int))] [] σ' := by
  have h66 := hl.1
  have h6 := hV.nP
  intro m
  induction m with
  | zero =>
    intro k σ' hk hf hx
    obtain rfl : k = l.length := by omega
    refine ax_load (q := 9) rfl rfl rfl rfl rfl ?_
    refine ax_load (q := 10) rfl rfl rfl rfl rfl ?_
    refine ax_icmp_ge (q := 13) (x := 58) rfl rfl (fun h10 => ?_) (fun h => absurd h (by omega))
    refine ax_load (q := 59) rfl rfl rfl rfl rfl ?_
    refine ax_ret (r := some (am_I ((ct_ (l.length) (fun k => decide (ob_ T v l (k + 1) (12 + l.getD k 0) = 2)) : Nat) : Int))) rfl rfl ?_
    exact hQ σ' hf
  | succ m ih =>
    intro k σ' hk hf hx
    have hc := ct_le (fun k => decide (ob_ T v l (k + 1) (12 + l.getD k 0) = 2)) k
    have hk6 := hlp k (by omega)
    refine ax_load (q := 9) rfl rfl rfl rfl rfl ?_
    refine ax_load (q := 10) rfl rfl rfl rfl rfl ?_
    refine ax_icmp_ge (q := 13) (x := 58) rfl rfl (fun h => absurd h (by omega)) (fun h10 => ?_)
    refine ax_load (q := 14) rfl rfl rfl rfl rfl ?_
    refine ax_load (q := 15) rfl rfl rfl rfl rfl ?_
    refine ax_getf (q := 18) (v := am_R 168) rfl rfl (rfl) ?_
    refine ax_load (q := 19) rfl rfl rfl rfl rfl ?_
    refine bx_iald (q := 20) (k := k) (z := ((l.getD k 0 : Nat) : Int)) rfl rfl (rfl) (by omega) (by omega) (((congrFun (hf.1 168 (by decide)) _).trans (hl.2 k (by omega)))) ?_
    refine ax_callv (q := 23) rfl rfl rfl rfl rfl rfl ?_
    refine m_openOf (by omega) (hT.fr hf (by decide)) hV hx (hW.ob hV hlp k (by omega)) hk6 ?_
    refine ax_load (q := 24) rfl rfl rfl rfl rfl ?_
    refine ax_load (q := 25) rfl rfl rfl rfl rfl ?_
    refine ax_getf (q := 28) (v := am_R 164) rfl rfl (rfl) ?_
    refine ax_const (q := 30) (v := am_I 12) rfl rfl rfl ?_
    refine ax_load (q := 31) rfl rfl rfl rfl rfl ?_
    refine ax_getf (q := 34) (v := am_R 168) rfl rfl (rfl) ?_
    refine ax_load (q := 35) rfl rfl rfl rfl rfl ?_
    refine bx_iald (q := 36) (k := k) (z := ((l.getD k 0 : Nat) : Int)) rfl rfl (rfl) (by omega) (by omega) ((congrFun (sI_ne (by decide)) _).trans ((congrFun (hf.1 168 (by decide)) _).trans (hl.2 k (by omega)))) ?_
    refine ax_iadd (q := 37) (z := ((12 + (l.getD k 0) : Nat) : Int)) rfl rfl (am_we (by omega) (by omega) (by omega)) ?_
    refine bx_iald (q := 38) (k := 12 + (l.getD k 0)) (z := op_ T (ob_ T v l k) (l.getD k 0) (12 + l.getD k 0)) rfl rfl (rfl) (by omega) (by omega) (congrFun (sI_at _ _ _) _) ?_
    refine ax_const (q := 39) (v := am_I 2) rfl rfl rfl ?_
    refine ax_icmp_ne (q := 42) (x := 46) rfl rfl (fun h39 => ?_) (fun h39 => ?_)
    · refine ax_const (q := 47) (v := am_I 0) rfl rfl rfl ?_
      refine ax_calls (q := 50) rfl rfl rfl rfl rfl ?_
      refine m_truthz (by omega) (Or.inl rfl) ?_
      refine ax_iadd (q := 51) (z := (((ct_ k (fun k => decide (ob_ T v l (k + 1) (12 + l.getD k 0) = 2))) + 0 : Nat) : Int)) rfl rfl (am_we (by omega) (by omega) (by omega)) ?_
      refine ax_store (q := 52) (L' := [some (am_R 135), some (am_I ((l.length : Nat) : Int)), some (am_I (((ct_ k (fun k => decide (ob_ T v l (k + 1) (12 + l.getD k 0) = 2))) + 0 : Nat) : Int)), some (am_I ((k : Nat) : Int))]) rfl rfl rfl rfl rfl rfl ?_
      refine ax_iinc (q := 55) (z' := ((k + 1 : Nat) : Int)) (L' := [some (am_R 135), some (am_I ((l.length : Nat) : Int)), some (am_I (((ct_ k (fun k => decide (ob_ T v l (k + 1) (12 + l.getD k 0) = 2))) + 0 : Nat) : Int)), some (am_I ((k + 1 : Nat) : Int))]) rfl rfl rfl rfl (am_we (by omega) (by omega) (by omega)) rfl ?_
      refine ax_goto (x := 8) rfl ?_
      have e : ct_ (k + 1) (fun k => decide (ob_ T v l (k + 1) (12 + l.getD k 0) = 2)) = ct_ k (fun k => decide (ob_ T v l (k + 1) (12 + l.getD k 0) = 2)) + 0 := by
        show ct_ k _ + (if decide (op_ T (ob_ T v l k) (l.getD k 0) (12 + l.getD k 0) = 2) = true then 1 else 0) = _
        rw [decide_eq_false h39]
        rfl
      have g := ih (k + 1) _ (by omega) (fr_sI hf (by decide)) (sI_at σ' 164 (op_ T (ob_ T v l k) (l.getD k 0)))
      rw [e] at g
      exact g
    · refine ax_const (q := 43) (v := am_I 1) rfl rfl rfl ?_
      refine ax_goto (x := 47) rfl ?_
      refine ax_calls (q := 50) rfl rfl rfl rfl rfl ?_
      refine m_truthz (by omega) (Or.inr rfl) ?_
      refine ax_iadd (q := 51) (z := (((ct_ k (fun k => decide (ob_ T v l (k + 1) (12 + l.getD k 0) = 2))) + 1 : Nat) : Int)) rfl rfl (am_we (by omega) (by omega) (by omega)) ?_
      refine ax_store (q := 52) (L' := [some (am_R 135), some (am_I ((l.length : Nat) : Int)), some (am_I (((ct_ k (fun k => decide (ob_ T v l (k + 1) (12 + l.getD k 0) = 2))) + 1 : Nat) : Int)), some (am_I ((k : Nat) : Int))]) rfl rfl rfl rfl rfl rfl ?_
      refine ax_iinc (q := 55) (z' := ((k + 1 : Nat) : Int)) (L' := [some (am_R 135), some (am_I ((l.length : Nat) : Int)), some (am_I (((ct_ k (fun k => decide (ob_ T v l (k + 1) (12 + l.getD k 0) = 2))) + 1 : Nat) : Int)), some (am_I ((k + 1 : Nat) : Int))]) rfl rfl rfl rfl (am_we (by omega) (by omega) (by omega)) rfl ?_
      refine ax_goto (x := 8) rfl ?_
      have e : ct_ (k + 1) (fun k => decide (ob_ T v l (k + 1) (12 + l.getD k 0) = 2)) = ct_ k (fun k => decide (ob_ T v l (k + 1) (12 + l.getD k 0) = 2)) + 1 := by
        show ct_ k _ + (if decide (op_ T (ob_ T v l k) (l.getD k 0) (12 + l.getD k 0) = 2) = true then 1 else 0) = _
        rw [decide_eq_true h39]
        rfl
      have g := ih (k + 1) _ (by omega) (fr_sI hf (by decide)) (sI_at σ' 164 (op_ T (ob_ T v l k) (l.getD k 0)))
      rw [e] at g
      exact g

theorem m_doneBy {d : Nat} (hd : 6 ≤ d) {σ : am_S} {T : sp_T} (hT : TM_ T σ) (hV : TV_ T) {b : Int} {v w : sp_V} (hw : σ.1 163 = w) (hvw : ∀ j, j < 50 → v j = w j) (hW : VV_ T b w) {l : List Nat} (hl : WL_ l σ) (hlp : ∀ k, k < l.length → l.getD k 0 < nP_ T) {Q : Option am_V → am_S → Prop} (hQ : ∀ σ', fr_ [164] σ σ' → Q (some (am_I ((db_ T v l : Nat) : Int))) σ') : am_Ev d 244 [am_R 135, am_I ((l.length : Nat) : Int)] σ Q := by
  obtain ⟨d, rfl⟩ : ∃ e, d = e + 1 := ⟨d - 1, by omega⟩
  have h6 := hV.nP
  obtain ⟨u, hu⟩ : ∃ u, u = cp_ w (σ.1 164) 50 := ⟨_, rfl⟩
  have huw : ∀ j, j < 50 → u j = w j := fun j hj => by rw [hu]; exact cp_at hj
  have hWu : VV_ T b u := hW.cg hV huw
  rw [show db_ T v l = db_ T u l from db_cg hV (fun j hj => (hvw j hj).trans (huw j hj).symm) hWu hlp] at hQ
  refine ev_in (m := 244) (c := k_X9_doneBy) (L := [some (am_R 135), some (am_I ((l.length : Nat) : Int)), none, none]) rfl rfl rfl rfl rfl rfl ?_
  refine ax_load (q := 1) rfl rfl rfl rfl rfl ?_
  refine ax_callv (q := 4) rfl rfl rfl rfl rfl rfl ?_
  refine m_load (by omega) ?_
  rw [hw, ← hu]
  refine ax_const (q := 5) (v := am_I 0) rfl rfl rfl ?_
  refine ax_store (q := 6) (L' := [some (am_R 135), some (am_I ((l.length : Nat) : Int)), some (am_I 0), none]) rfl rfl rfl rfl rfl rfl ?_
  refine ax_const (q := 7) (v := am_I 0) rfl rfl rfl ?_
  refine ax_store (q := 8) (L' := [some (am_R 135), some (am_I ((l.length : Nat) : Int)), some (am_I 0), some (am_I 0)]) rfl rfl rfl rfl rfl rfl ?_
  exact l_doneBy (σ := am_sI σ 164 u) (by omega) (hT.sI (by decide)) hV hWu (l := l) ⟨hl.1, fun k hk => by rw [sI_ne (by decide)]; exact hl.2 k hk⟩ hlp (fun σ' hf => hQ σ' (fr_tr (l := [164]) (fr_sI (fr_rf _ _) (by decide)) hf (fun a h => h))) l.length 0 _ (by omega) (fr_rf _ _) (sI_at _ _ _)

/-! all rows of a set -/
def fa_ : Nat → Nat
  | 0 => 1
  | n + 1 => (n + 1) * fa_ n
/-- the row that number r tells, of those left -/
def tt_ : Nat → List Nat → Nat → Nat → List Nat
  | 0, _, _, _ => []
  | n + 1, left, block, r => left.getD (r / max 1 (block / (n + 1))) 0 :: tt_ n (left.erase (left.getD (r / max 1 (block / (n + 1))) 0)) (max 1 (block / (n + 1))) (r % max 1 (block / (n + 1)))
def rs_ (M : List Nat) : List (List Nat) := (List.range (fa_ M.length)).map (tt_ M.length M (fa_ M.length))
def nd_ (M : List Nat) : Bool := (List.range M.length).all fun i => (List.range M.length).all fun j => decide (M.getD i 0 = M.getD j 0) == decide (i = j)
theorem rs_all : ((List.range 64).all fun s => sqb_ (nr_ (mb_ s 6).length) (rs_ (mb_ s 6)) && (decide ((rs_ (mb_ s 6)).head? = some (mb_ s 6)) && ((rs_ (mb_ s 6)).all (fun l => decide (l.length = (mb_ s 6).length) && l.all (fun x => s.testBit x)) && nd_ (mb_ s 6)))) = true := by decide +kernel
theorem mb_all : ((List.range 7).all fun n => (List.range (2 ^ n)).all fun s => decide (mb_ s n = mb_ s 6)) = true := by decide +kernel
theorem mb_eq {n s : Nat} (hn : n ≤ 6) (hs : s < 2 ^ n) : mb_ s n = mb_ s 6 := by
  have h := mb_all
  rw [List.all_eq_true] at h
  have h := h n (List.mem_range.mpr (by omega))
  rw [List.all_eq_true] at h
  exact of_decide_eq_true (h s (List.mem_range.mpr hs))
theorem rs_ok {n s : Nat} (hn : n ≤ 6) (hs : s < 2 ^ n) : ∃ l, rs_ (mb_ s n) = mb_ s n :: l ∧ sq_ (nr_ (mb_ s n).length) (mb_ s n :: l) ∧ (∀ r, r ∈ mb_ s n :: l → r.length = (mb_ s n).length ∧ ∀ k, k < r.length → s.testBit (r.getD k 0) = true ∧ r.getD k 0 < n) ∧ ∀ i j, i < (mb_ s n).length → j < (mb_ s n).length → (mb_ s n).getD i 0 = (mb_ s n).getD j 0 → i = j := by
  rw [mb_eq hn hs]
  have h64 : s < 64 := Nat.lt_of_lt_of_le hs (Nat.pow_le_pow_right (by decide) hn)
  have h := rs_all
  rw [List.all_eq_true] at h
  have h := h s (List.mem_range.mpr h64)
  rw [Bool.and_eq_true, Bool.and_eq_true, Bool.and_eq_true, decide_eq_true_eq, List.all_eq_true] at h
  obtain ⟨g1, g2, g3, g4⟩ := h
  cases e : rs_ (mb_ s 6) with
  | nil => rw [e] at g2; cases g2
  | cons S l =>
    rw [e] at g1 g2 g3
    have : S = mb_ s 6 := Option.some.inj g2
    subst this
    refine ⟨l, rfl, sqb_t _ g1, fun r hr => ?_, fun i j hi hj hij => ?_⟩
    · have q := g3 r hr
      rw [Bool.and_eq_true, decide_eq_true_eq, List.all_eq_true] at q
      refine ⟨q.1, fun k hk => ?_⟩
      have q2 := q.2 (r.getD k 0) (by rw [List.getD_eq_getElem?_getD, List.getElem?_eq_getElem hk]; exact List.getElem_mem hk)
      refine ⟨q2, ?_⟩
      rcases Nat.lt_or_ge (r.getD k 0) n with q3 | q3
      · exact q3
      · rw [Nat.testBit_lt_two_pow (Nat.lt_of_lt_of_le hs (Nat.pow_le_pow_right (by decide) q3))] at q2
        cases q2
    · unfold nd_ at g4
      rw [List.all_eq_true] at g4
      have q := g4 i (List.mem_range.mpr hi)
      rw [List.all_eq_true] at q
      have q := q j (List.mem_range.mpr hj)
      rw [decide_eq_true hij] at q
      exact of_decide_eq_true (by simpa using q)

