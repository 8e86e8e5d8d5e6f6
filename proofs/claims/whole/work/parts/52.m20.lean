/-! rows of PERSONS -/
def mb_ (s : Nat) : Nat → List Nat
  | 0 => []
  | p + 1 => if s.testBit p then mb_ s p ++ [p] else mb_ s p
theorem mb_le (s : Nat) : ∀ n, (mb_ s n).length ≤ n
  | 0 => Nat.le_refl _
  | n + 1 => by
    have := mb_le s n
    unfold mb_
    split
    · rw [List.length_append, List.length_singleton]; omega
    · omega
def WL_ (l : List Nat) (σ : am_S) : Prop := l.length ≤ 6 ∧ ∀ k, k < l.length → σ.1 168 k = (l.getD k 0 : Int)
def sw_ (l : List Nat) (a b : Nat) : List Nat := (l.set a (l.getD b 0)).set b (l.getD a 0)
theorem sw_len (l : List Nat) (a b : Nat) : (sw_ l a b).length = l.length := by unfold sw_; rw [List.length_set, List.length_set]
def ex_ (σ : am_S) (a b : Nat) : am_S := am_sI σ 168 (am_up (am_up (σ.1 168) a (σ.1 168 b)) b (σ.1 168 a))
theorem WL_.sw {l : List Nat} {σ : am_S} (h : WL_ l σ) {a b : Nat} (ha : a < l.length) (hb : b < l.length) : WL_ (sw_ l a b) (ex_ σ a b) := by
  refine ⟨by rw [sw_len]; exact h.1, fun k hk => ?_⟩
  rw [sw_len] at hk
  unfold ex_ sw_
  rw [sI_at, getD_set (by rw [List.length_set]; exact hb), getD_set ha]
  by_cases q : k = b
  · subst q; rw [am_up_same, if_pos rfl]; exact h.2 a ha
  · rw [am_up_ne q, if_neg q]
    by_cases q2 : k = a
    · subst q2; rw [am_up_same, if_pos rfl]; exact h.2 b hb
    · rw [am_up_ne q2, if_neg q2]; exact h.2 k hk
theorem fr_ex {lst : List Nat} {σ σ' : am_S} (h : fr_ lst σ σ') (h8 : 168 ∈ lst) (a b : Nat) : fr_ lst σ (ex_ σ' a b) := fr_sI h h8
def pk_ (l : List Nat) : Nat → Nat
  | 0 => 0
  | m + 1 => if l.getD (m + 1) 0 < l.getD m 0 then pk_ l m else m + 1
def pj_ (l : List Nat) (x : Nat) : Nat → Nat
  | 0 => 0
  | j + 1 => if l.getD (j + 1) 0 < x then pj_ l x j else j + 1
def rv_ : Nat → List Nat → Nat → Nat → List Nat
  | 0, l, _, _ => l
  | f + 1, l, a, b => if a < b then rv_ f (sw_ l a b) (a + 1) (b - 1) else l
theorem rv_len : ∀ (f : Nat) (l : List Nat) (a b : Nat), (rv_ f l a b).length = l.length
  | 0, _, _, _ => rfl
  | f + 1, l, a, b => by
    unfold rv_
    split
    · rw [rv_len f, sw_len]
    · rfl
def nr_ (n : Nat) (l : List Nat) : Option (List Nat) := if pk_ l (n - 1) = 0 then none else some (rv_ n (sw_ l (pk_ l (n - 1) - 1) (pj_ l (l.getD (pk_ l (n - 1) - 1) 0) (n - 1))) (pk_ l (n - 1)) (n - 1))
/-- what nextRow leaves -/
def NR_ (l : List Nat) (σ : am_S) (Q : Option am_V → am_S → Prop) : Prop := (nr_ l.length l = none → Q (some (am_I 0)) σ) ∧ ∀ l', nr_ l.length l = some l' → ∀ σ', fr_ [168] σ σ' → WL_ l' σ' → Q (some (am_I 1)) σ'

theorem l_layFirst {d : Nat} {σ : am_S} {T : sp_T} (hT : TM_ T σ) (hV : TV_ T) {s : Nat} (hs : s < 2 ^ 30) {Q : Option am_V → am_S → Prop} (hQ : ∀ σ', fr_ [168] σ σ' → WL_ (mb_ s (nP_ T)) σ' → Q (some (am_I (((mb_ s (nP_ T)).length : Nat) : Int))) σ') : ∀ (m k : Nat) σ', k + m = nP_ T → fr_ [168] σ σ' → WL_ (mb_ s k) σ' → aW d 0 k_X9_layFirst Q 4 [some (am_R 135), some (am_I ((s : Nat) : Int)), some (am_I (((mb_ s k).length : Nat) : Int)), some (am_I ((k : Nat) : Int))] [] σ' := by
  have h6 := hV.nP
  intro m
  induction m with
  | zero =>
    intro k σ' hk hf hw
    obtain rfl : k = nP_ T := by omega
    refine ax_load (q := 5) rfl rfl rfl rfl rfl ?_
    refine ax_load (q := 6) rfl rfl rfl rfl rfl ?_
    refine ax_getf (q := 9) (v := am_I ((nP_ T : Nat) : Int)) rfl rfl (am_fg rfl ((hT.fr hf (by decide)).s53.trans hV.nP.1)) ?_
    refine ax_icmp_ge (q := 12) (x := 39) rfl rfl (fun h9 => ?_) (fun h => absurd h (by omega))
    refine ax_load (q := 40) rfl rfl rfl rfl rfl ?_
    refine ax_ret (r := some (am_I (((mb_ s (nP_ T)).length : Nat) : Int))) rfl rfl ?_
    exact hQ σ' hf hw
  | succ m ih =>
    intro k σ' hk hf hw
    have hml := mb_le s k
    refine ax_load (q := 5) rfl rfl rfl rfl rfl ?_
    refine ax_load (q := 6) rfl rfl rfl rfl rfl ?_
    refine ax_getf (q := 9) (v := am_I ((nP_ T : Nat) : Int)) rfl rfl (am_fg rfl ((hT.fr hf (by decide)).s53.trans hV.nP.1)) ?_
    refine ax_icmp_ge (q := 12) (x := 39) rfl rfl (fun h => absurd h (by omega)) (fun h9 => ?_)
    refine ax_load (q := 13) rfl rfl rfl rfl rfl ?_
    refine ax_load (q := 14) rfl rfl rfl rfl rfl ?_
    refine ax_ishr (q := 15) (z := am_shr (s : Int) (k : Int)) rfl rfl (rfl) ?_
    refine ax_const (q := 16) (v := am_I 1) rfl rfl rfl ?_
    refine ax_iand (q := 17) (z := if s.testBit k then 1 else 0) rfl rfl (am_bit (by omega) (by omega)) ?_
    refine ax_if_ne (q := 20) (x := 23) rfl rfl (fun h17 => ?_) (fun h17 => ?_)
    · have hb17 := it_n0 h17
      refine ax_load (q := 24) rfl rfl rfl rfl rfl ?_
      refine ax_getf (q := 27) (v := am_R 168) rfl rfl (rfl) ?_
      refine ax_load (q := 28) rfl rfl rfl rfl rfl ?_
      refine ax_load (q := 29) rfl rfl rfl rfl rfl ?_
      refine bx_iast (q := 30) (k := (mb_ s k).length) rfl rfl (rfl) (by omega) (by omega) ?_
      refine ax_iinc (q := 33) (z' := ((((mb_ s k).length) + 1 : Nat) : Int)) (L' := [some (am_R 135), some (am_I ((s : Nat) : Int)), some (am_I ((((mb_ s k).length) + 1 : Nat) : Int)), some (am_I ((k : Nat) : Int))]) rfl rfl rfl rfl (am_we (by omega) (by omega) (by omega)) rfl ?_
      refine ax_iinc (q := 36) (z' := ((k + 1 : Nat) : Int)) (L' := [some (am_R 135), some (am_I ((s : Nat) : Int)), some (am_I ((((mb_ s k).length) + 1 : Nat) : Int)), some (am_I ((k + 1 : Nat) : Int))]) rfl rfl rfl rfl (am_we (by omega) (by omega) (by omega)) rfl ?_
      refine ax_goto (x := 4) rfl ?_
      have e : mb_ s (k + 1) = mb_ s k ++ [k] := if_pos hb17
      have g := ih (k + 1) (am_sI σ' 168 (am_up (σ'.1 168) ((mb_ s k).length) ((k : Nat) : Int))) (by omega) (fr_sI hf (by decide)) (by
          rw [e]
          refine ⟨by rw [List.length_append, List.length_singleton]; omega, fun j hj => ?_⟩
          rw [List.length_append, List.length_singleton] at hj
          rw [sI_at, List.getD_eq_getElem?_getD]
          by_cases q : j = (mb_ s k).length
          · subst q; rw [am_up_same, List.getElem?_append_right (Nat.le_refl _)]; simp
          · rw [am_up_ne q, List.getElem?_append_left (by omega), ← List.getD_eq_getElem?_getD]; exact hw.2 j (by omega))
      rw [e, List.length_append, List.length_singleton] at g
      exact g
    · have hb17 := it_0 h17
      refine ax_goto (x := 33) rfl ?_
      refine ax_iinc (q := 36) (z' := ((k + 1 : Nat) : Int)) (L' := [some (am_R 135), some (am_I ((s : Nat) : Int)), some (am_I (((mb_ s k).length : Nat) : Int)), some (am_I ((k + 1 : Nat) : Int))]) rfl rfl rfl rfl (am_we (by omega) (by omega) (by omega)) rfl ?_
      refine ax_goto (x := 4) rfl ?_
      have e : mb_ s (k + 1) = mb_ s k := if_neg (by rw [hb17]; decide)
      have g := ih (k + 1) σ' (by omega) hf (by rw [e]; exact hw)
      rw [e] at g
      exact g

theorem m_layFirst {d : Nat} (hd : 1 ≤ d) {σ : am_S} {T : sp_T} (hT : TM_ T σ) (hV : TV_ T) {s : Nat} (hs : s < 2 ^ 30) {Q : Option am_V → am_S → Prop} (hQ : ∀ σ', fr_ [168] σ σ' → WL_ (mb_ s (nP_ T)) σ' → Q (some (am_I (((mb_ s (nP_ T)).length : Nat) : Int))) σ') : am_Ev d 238 [am_R 135, am_I ((s : Nat) : Int)] σ Q := by
  obtain ⟨d, rfl⟩ : ∃ e, d = e + 1 := ⟨d - 1, by omega⟩
  refine ev_in (m := 238) (c := k_X9_layFirst) (L := [some (am_R 135), some (am_I ((s : Nat) : Int)), none, none]) rfl rfl rfl rfl rfl rfl ?_
  refine ax_const (q := 1) (v := am_I 0) rfl rfl rfl ?_
  refine ax_store (q := 2) (L' := [some (am_R 135), some (am_I ((s : Nat) : Int)), some (am_I 0), none]) rfl rfl rfl rfl rfl rfl ?_
  refine ax_const (q := 3) (v := am_I 0) rfl rfl rfl ?_
  refine ax_store (q := 4) (L' := [some (am_R 135), some (am_I ((s : Nat) : Int)), some (am_I 0), some (am_I 0)]) rfl rfl rfl rfl rfl rfl ?_
  exact l_layFirst hT hV hs hQ (nP_ T) 0 σ (by omega) (fr_rf _ _) ⟨by show 0 ≤ 6; omega, fun k hk => absurd hk (by show ¬ k < 0; omega)⟩

theorem m_exchangeRow {d : Nat} (hd : 1 ≤ d) {σ : am_S} {a b : Nat} (ha : a < 6) (hb : b < 6) {Q : Option am_V → am_S → Prop} (hQ : Q (none) (ex_ σ a b)) : am_Ev d 240 [am_R 135, am_I ((a : Nat) : Int), am_I ((b : Nat) : Int)] σ Q := by
  obtain ⟨d, rfl⟩ : ∃ e, d = e + 1 := ⟨d - 1, by omega⟩
  refine ev_in (m := 240) (c := k_X9_exchangeRow) (L := [some (am_R 135), some (am_I ((a : Nat) : Int)), some (am_I ((b : Nat) : Int)), none]) rfl rfl rfl rfl rfl rfl ?_
  refine ax_load (q := 1) rfl rfl rfl rfl rfl ?_
  refine ax_getf (q := 4) (v := am_R 168) rfl rfl (rfl) ?_
  refine ax_load (q := 5) rfl rfl rfl rfl rfl ?_
  refine bx_iald (q := 6) (k := a) (z := σ.1 168 a) rfl rfl (rfl) (by omega) (by omega) (rfl) ?_
  refine ax_store (q := 7) (L' := [some (am_R 135), some (am_I ((a : Nat) : Int)), some (am_I ((b : Nat) : Int)), some (am_I (σ.1 168 a))]) rfl rfl rfl rfl rfl rfl ?_
  refine ax_load (q := 8) rfl rfl rfl rfl rfl ?_
  refine ax_getf (q := 11) (v := am_R 168) rfl rfl (rfl) ?_
  refine ax_load (q := 12) rfl rfl rfl rfl rfl ?_
  refine ax_load (q := 13) rfl rfl rfl rfl rfl ?_
  refine ax_getf (q := 16) (v := am_R 168) rfl rfl (rfl) ?_
  refine ax_load (q := 17) rfl rfl rfl rfl rfl ?_
  refine bx_iald (q := 18) (k := b) (z := σ.1 168 b) rfl rfl (rfl) (by omega) (by omega) (rfl) ?_
  refine bx_iast (q := 19) (k := a) rfl rfl (rfl) (by omega) (by omega) ?_
  refine ax_load (q := 20) rfl rfl rfl rfl rfl ?_
  refine ax_getf (q := 23) (v := am_R 168) rfl rfl (rfl) ?_
  refine ax_load (q := 24) rfl rfl rfl rfl rfl ?_
  refine ax_load (q := 25) rfl rfl rfl rfl rfl ?_
  refine bx_iast (q := 26) (k := b) rfl rfl (rfl) (by omega) (by omega) ?_
  refine ax_ret (r := none) rfl rfl ?_
  rw [sI_sI, sI_at]
  exact hQ

theorem l_next3 {d : Nat} (hd : 1 ≤ d) {σ : am_S} {l0 : List Nat} {m : Nat} {y3 : Int} {Q : Option am_V → am_S → Prop} : ∀ (f : Nat) (l : List Nat) (a b : Nat) σ', l.length = l0.length → b + 1 ≤ l.length → b ≤ a + f → fr_ [168] σ σ' → WL_ l σ' → (hQ : ∀ σ', fr_ [168] σ σ' → WL_ (rv_ f l a b) σ' → Q (some (am_I 1)) σ') → aW d 1 k_X9_nextRow Q 78 [some (am_R 135), some (am_I ((l0.length : Nat) : Int)), some (am_I ((m : Nat) : Int)), some (am_I y3), some (am_I ((a : Nat) : Int)), some (am_I ((b : Nat) : Int))] [] σ' := by
  intro f
  induction f with
  | zero =>
    intro l a b σ' hll hb hab hf hw hQ
    refine ax_load (q := 80) rfl rfl rfl rfl rfl ?_
    refine ax_load (q := 82) rfl rfl rfl rfl rfl ?_
    refine ax_icmp_ge (q := 85) (x := 102) rfl rfl (fun h82 => ?_) (fun h => absurd h (by omega))
    refine ax_const (q := 103) (v := am_I 1) rfl rfl rfl ?_
    refine ax_ret (r := some (am_I 1)) rfl ⟨rfl, Or.inr rfl⟩ ?_
    exact hQ σ' hf hw
  | succ f ih =>
    intro l a b σ' hll hb hab hf hw hQ
    have h66 := hw.1
    refine ax_load (q := 80) rfl rfl rfl rfl rfl ?_
    refine ax_load (q := 82) rfl rfl rfl rfl rfl ?_
    refine ax_icmp_ge (q := 85) (x := 102) rfl rfl (fun h82 => ?_) (fun h82 => ?_)
    · refine ax_const (q := 103) (v := am_I 1) rfl rfl rfl ?_
      refine ax_ret (r := some (am_I 1)) rfl ⟨rfl, Or.inr rfl⟩ ?_
      rw [show rv_ (f + 1) l a b = l from if_neg (by omega)] at hQ
      exact hQ σ' hf hw
    · refine ax_load (q := 86) rfl rfl rfl rfl rfl ?_
      refine ax_load (q := 88) rfl rfl rfl rfl rfl ?_
      refine ax_load (q := 90) rfl rfl rfl rfl rfl ?_
      refine ax_callv (q := 93) rfl rfl rfl rfl rfl rfl ?_
      refine m_exchangeRow (by omega) (by omega) (by omega) ?_
      refine ax_iinc (q := 96) (z' := ((a + 1 : Nat) : Int)) (L' := [some (am_R 135), some (am_I ((l0.length : Nat) : Int)), some (am_I ((m : Nat) : Int)), some (am_I y3), some (am_I ((a + 1 : Nat) : Int)), some (am_I ((b : Nat) : Int))]) rfl rfl rfl rfl (am_we (by omega) (by omega) (by omega)) rfl ?_
      refine ax_iinc (q := 99) (z' := (((b - 1) : Nat) : Int)) (L' := [some (am_R 135), some (am_I ((l0.length : Nat) : Int)), some (am_I ((m : Nat) : Int)), some (am_I y3), some (am_I ((a + 1 : Nat) : Int)), some (am_I (((b - 1) : Nat) : Int))]) rfl rfl rfl rfl (am_we (by omega) (by omega) (by omega)) rfl ?_
      refine ax_goto (x := 78) rfl ?_
      rw [show rv_ (f + 1) l a b = rv_ f (sw_ l a b) (a + 1) (b - 1) from if_pos (by omega)] at hQ
      exact ih (sw_ l a b) (a + 1) (b - 1) _ (by rw [sw_len]; exact hll) (by rw [sw_len]; omega) (by omega) (fr_ex hf (by decide) a b) (hw.sw (by omega) (by omega)) hQ

theorem l_next2 {d : Nat} {σ : am_S} {l : List Nat} (hl : WL_ l σ) {m : Nat} (hm : m + 1 < l.length) (hnl : ¬ l.getD (m + 1) 0 < l.getD m 0) {Q : Option am_V → am_S → Prop} {o4 o5 : Option am_V} (hQ : m + 1 ≤ pj_ l (l.getD m 0) (l.length - 1) → pj_ l (l.getD m 0) (l.length - 1) < l.length → aW d 1 k_X9_nextRow Q 62 [some (am_R 135), some (am_I ((l.length : Nat) : Int)), some (am_I ((m : Nat) : Int)), some (am_I ((pj_ l (l.getD m 0) (l.length - 1) : Nat) : Int)), o4, o5] [] σ) : ∀ j : Nat, m + 1 ≤ j → j ≤ l.length - 1 → pj_ l (l.getD m 0) (l.length - 1) = pj_ l (l.getD m 0) j → aW d 1 k_X9_nextRow Q 41 [some (am_R 135), some (am_I ((l.length : Nat) : Int)), some (am_I ((m : Nat) : Int)), some (am_I ((j : Nat) : Int)), o4, o5] [] σ := by
  have h66 := hl.1
  intro j
  induction j with
  | zero =>
    intro h1
    omega
  | succ j ih =>
    intro h1 h2 h3
    refine ax_load (q := 42) rfl rfl rfl rfl rfl ?_
    refine ax_getf (q := 45) (v := am_R 168) rfl rfl (rfl) ?_
    refine ax_load (q := 46) rfl rfl rfl rfl rfl ?_
    refine bx_iald (q := 47) (k := j + 1) (z := ((l.getD (j + 1) 0 : Nat) : Int)) rfl rfl (rfl) (by omega) (by omega) (hl.2 (j + 1) (by omega)) ?_
    refine ax_load (q := 48) rfl rfl rfl rfl rfl ?_
    refine ax_getf (q := 51) (v := am_R 168) rfl rfl (rfl) ?_
    refine ax_load (q := 52) rfl rfl rfl rfl rfl ?_
    refine bx_iald (q := 53) (k := m) (z := ((l.getD m 0 : Nat) : Int)) rfl rfl (rfl) (by omega) (by omega) (hl.2 m (by omega)) ?_
    refine ax_icmp_ge (q := 56) (x := 62) rfl rfl (fun h53 => ?_) (fun h53 => ?_)
    · have e : pj_ l (l.getD m 0) (l.length - 1) = j + 1 := h3.trans (if_neg (by omega))
      rw [e] at hQ
      exact hQ (by omega) (by omega)
    · refine ax_iinc (q := 59) (z' := ((j : Nat) : Int)) (L' := [some (am_R 135), some (am_I ((l.length : Nat) : Int)), some (am_I ((m : Nat) : Int)), some (am_I ((j : Nat) : Int)), o4, o5]) rfl rfl rfl rfl (am_we (by omega) (by omega) (by omega)) rfl ?_
      refine ax_goto (x := 41) rfl ?_
      refine ih (by have : j + 1 ≠ m + 1 := fun q => hnl (by rw [← q]; omega); omega) (by omega) (h3.trans (if_pos (by omega)))

theorem l_next1 {d : Nat} (hd : 1 ≤ d) {σ : am_S} {l : List Nat} (hl : WL_ l σ) (h0 : 1 ≤ l.length) {Q : Option am_V → am_S → Prop} (hQ : NR_ l σ Q) : ∀ m : Nat, m ≤ l.length - 1 → pk_ l (l.length - 1) = pk_ l m → aW d 1 k_X9_nextRow Q 4 [some (am_R 135), some (am_I ((l.length : Nat) : Int)), some (am_I (((m : Nat) : Int) - 1)), none, none, none] [] σ := by
  have h66 := hl.1
  intro m
  induction m with
  | zero =>
    intro hm hp
    have e : nr_ l.length l = none := by unfold nr_; rw [hp]; rfl
    rw [show (((0 : Nat) : Int) - 1) = -1 from rfl]
    refine ax_load (q := 5) rfl rfl rfl rfl rfl ?_
    refine ax_if_lt (q := 8) (x := 31) rfl rfl (fun h5 => ?_) (fun h => absurd h (by decide))
    refine ax_load (q := 32) rfl rfl rfl rfl rfl ?_
    refine ax_if_ge (q := 35) (x := 37) rfl rfl (fun h => absurd h (by decide)) (fun h32 => ?_)
    refine ax_const (q := 36) (v := am_I 0) rfl rfl rfl ?_
    refine ax_ret (r := some (am_I 0)) rfl ⟨rfl, Or.inl rfl⟩ ?_
    exact hQ.1 e
  | succ m ih =>
    intro hm hp
    rw [show (((m + 1 : Nat) : Int) - 1) = ((m : Nat) : Int) by omega]
    refine ax_load (q := 5) rfl rfl rfl rfl rfl ?_
    refine ax_if_lt (q := 8) (x := 31) rfl rfl (fun h => absurd h (by omega)) (fun h5 => ?_)
    refine ax_load (q := 9) rfl rfl rfl rfl rfl ?_
    refine ax_getf (q := 12) (v := am_R 168) rfl rfl (rfl) ?_
    refine ax_load (q := 13) rfl rfl rfl rfl rfl ?_
    refine bx_iald (q := 14) (k := m) (z := ((l.getD m 0 : Nat) : Int)) rfl rfl (rfl) (by omega) (by omega) (hl.2 m (by omega)) ?_
    refine ax_load (q := 15) rfl rfl rfl rfl rfl ?_
    refine ax_getf (q := 18) (v := am_R 168) rfl rfl (rfl) ?_
    refine ax_load (q := 19) rfl rfl rfl rfl rfl ?_
    refine ax_const (q := 20) (v := am_I 1) rfl rfl rfl ?_
    refine ax_iadd (q := 21) (z := ((m + 1 : Nat) : Int)) rfl rfl (am_we (by omega) (by omega) (by omega)) ?_
    refine bx_iald (q := 22) (k := m + 1) (z := ((l.getD (m + 1) 0 : Nat) : Int)) rfl rfl (rfl) (by omega) (by omega) (hl.2 (m + 1) (by omega)) ?_
    refine ax_icmp_le (q := 25) (x := 31) rfl rfl (fun h22 => ?_) (fun h22 => ?_)
    · refine ax_load (q := 32) rfl rfl rfl rfl rfl ?_
      refine ax_if_ge (q := 35) (x := 37) rfl rfl (fun h32 => ?_) (fun h => absurd h (by omega))
      refine ax_load (q := 38) rfl rfl rfl rfl rfl ?_
      refine ax_const (q := 39) (v := am_I 1) rfl rfl rfl ?_
      refine ax_isub (q := 40) (z := (((l.length - 1) : Nat) : Int)) rfl rfl (am_we (by omega) (by omega) (by omega)) ?_
      refine ax_store (q := 41) (L' := [some (am_R 135), some (am_I ((l.length : Nat) : Int)), some (am_I ((m : Nat) : Int)), some (am_I (((l.length - 1) : Nat) : Int)), none, none]) rfl rfl rfl rfl rfl rfl ?_
      refine l_next2 (d := d) hl (m := m) (by omega) (by omega) (o4 := none) (o5 := none) (fun hj1 hj2 => ?_) (l.length - 1) (by omega) (Nat.le_refl _) rfl
      refine ax_load (q := 63) rfl rfl rfl rfl rfl ?_
      refine ax_load (q := 64) rfl rfl rfl rfl rfl ?_
      refine ax_load (q := 65) rfl rfl rfl rfl rfl ?_
      refine ax_callv (q := 68) rfl rfl rfl rfl rfl rfl ?_
      refine m_exchangeRow (by omega) (by omega) (by omega) ?_
      refine ax_load (q := 69) rfl rfl rfl rfl rfl ?_
      refine ax_const (q := 70) (v := am_I 1) rfl rfl rfl ?_
      refine ax_iadd (q := 71) (z := ((m + 1 : Nat) : Int)) rfl rfl (am_we (by omega) (by omega) (by omega)) ?_
      refine ax_store (q := 73) (L' := [some (am_R 135), some (am_I ((l.length : Nat) : Int)), some (am_I ((m : Nat) : Int)), some (am_I (((pj_ l (l.getD m 0) (l.length - 1)) : Nat) : Int)), some (am_I ((m + 1 : Nat) : Int)), none]) rfl rfl rfl rfl rfl rfl ?_
      refine ax_load (q := 74) rfl rfl rfl rfl rfl ?_
      refine ax_const (q := 75) (v := am_I 1) rfl rfl rfl ?_
      refine ax_isub (q := 76) (z := (((l.length - 1) : Nat) : Int)) rfl rfl (am_we (by omega) (by omega) (by omega)) ?_
      refine ax_store (q := 78) (L' := [some (am_R 135), some (am_I ((l.length : Nat) : Int)), some (am_I ((m : Nat) : Int)), some (am_I (((pj_ l (l.getD m 0) (l.length - 1)) : Nat) : Int)), some (am_I ((m + 1 : Nat) : Int)), some (am_I (((l.length - 1) : Nat) : Int))]) rfl rfl rfl rfl rfl rfl ?_
      have e1 : pk_ l (m + 1) = m + 1 := if_neg (by omega)
      have e : nr_ l.length l = some (rv_ l.length (sw_ l m (pj_ l (l.getD m 0) (l.length - 1))) (m + 1) (l.length - 1)) := by unfold nr_; rw [hp, e1, if_neg (by omega)]; rfl
      exact l_next3 (σ := σ) (l0 := l) (by omega) l.length (sw_ l m (pj_ l (l.getD m 0) (l.length - 1))) (m + 1) (l.length - 1) _ (sw_len _ _ _) (by rw [sw_len]; omega) (by omega) (fr_ex (fr_rf _ _) (by decide) _ _) (hl.sw (by omega) (by omega)) (fun σ' hf hw => hQ.2 _ e σ' hf hw)
    · refine ax_iinc (q := 28) (z' := ((m : Nat) : Int) - 1) (L' := [some (am_R 135), some (am_I ((l.length : Nat) : Int)), some (am_I (((m : Nat) : Int) - 1)), none, none, none]) rfl rfl rfl rfl (am_we (by omega) (by omega) (by omega)) rfl ?_
      refine ax_goto (x := 4) rfl ?_
      exact ih (by omega) (hp.trans (if_pos (by omega)))

theorem m_nextRow {d : Nat} (hd : 2 ≤ d) {σ : am_S} {l : List Nat} (hl : WL_ l σ) {Q : Option am_V → am_S → Prop} (hQ : NR_ l σ Q) : am_Ev d 239 [am_R 135, am_I ((l.length : Nat) : Int)] σ Q := by
  obtain ⟨d, rfl⟩ : ∃ e, d = e + 1 := ⟨d - 1, by omega⟩
  have h66 := hl.1
  refine ev_in (m := 239) (c := k_X9_nextRow) (L := [some (am_R 135), some (am_I ((l.length : Nat) : Int)), none, none, none, none]) rfl rfl rfl rfl rfl rfl ?_
  by_cases h0 : l.length = 0
  · refine ax_load (q := 1) rfl rfl rfl rfl rfl ?_
    refine ax_const (q := 2) (v := am_I 2) rfl rfl rfl ?_
    refine ax_isub (q := 3) (z := ((l.length : Nat) : Int) - 2) rfl rfl (am_we (by omega) (by omega) (by omega)) ?_
    refine ax_store (q := 4) (L' := [some (am_R 135), some (am_I ((l.length : Nat) : Int)), some (am_I (((l.length : Nat) : Int) - 2)), none, none, none]) rfl rfl rfl rfl rfl rfl ?_
    refine ax_load (q := 5) rfl rfl rfl rfl rfl ?_
    refine ax_if_lt (q := 8) (x := 31) rfl rfl (fun h5 => ?_) (fun h => absurd h (by omega))
    refine ax_load (q := 32) rfl rfl rfl rfl rfl ?_
    refine ax_if_ge (q := 35) (x := 37) rfl rfl (fun h => absurd h (by omega)) (fun h32 => ?_)
    refine ax_const (q := 36) (v := am_I 0) rfl rfl rfl ?_
    refine ax_ret (r := some (am_I 0)) rfl ⟨rfl, Or.inl rfl⟩ ?_
    exact hQ.1 (by unfold nr_; rw [h0]; rfl)
  · refine ax_load (q := 1) rfl rfl rfl rfl rfl ?_
    refine ax_const (q := 2) (v := am_I 2) rfl rfl rfl ?_
    refine ax_isub (q := 3) (z := ((l.length : Nat) : Int) - 2) rfl rfl (am_we (by omega) (by omega) (by omega)) ?_
    refine ax_store (q := 4) (L' := [some (am_R 135), some (am_I ((l.length : Nat) : Int)), some (am_I (((l.length : Nat) : Int) - 2)), none, none, none]) rfl rfl rfl rfl rfl rfl ?_
    have g := l_next1 (d := d) (by omega) hl (by omega) hQ (l.length - 1) (Nat.le_refl _) rfl
    rw [show (((l.length - 1 : Nat) : Int) - 1) = (((l.length : Nat) : Int) - 2) by omega] at g
    exact g

