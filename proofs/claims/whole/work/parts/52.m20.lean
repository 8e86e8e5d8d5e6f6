/-! rows of PERSONS -/
def mb_ (s : Nat) : Nat → List Nat
  | 0 => []
  | p + 1 => if s.testBit p then mb_ s p ++ [p] else mb_ s p
theorem mb_le (s : Nat) : ∀ n, (mb_ s n).length ≤ n
  | 0 => Nat.le_refl _
  | n + 1 => by
    have := mb_le s n
    unfold mb_
    split
    · rw [List.length_append, List.length_singleton]; omega
    · omega
def WL_ (l : List Nat) (σ : am_S) : Prop := l.length ≤ 6 ∧ ∀ k, k < l.length → σ.1 168 k = (l.getD k 0 : Int)
def sw_ (l : List Nat) (a b : Nat) : List Nat := (l.set a (l.getD b 0)).set b (l.getD a 0)
theorem sw_len (l : List Nat) (a b : Nat) : (sw_ l a b).length = l.length := by unfold sw_; rw [List.length_set, List.length_set]
def ex_ (σ : am_S) (a b : Nat) : am_S := am_sI σ 168 (am_up (am_up (σ.1 168) a (σ.1 168 b)) b (σ.1 168 a))
theorem WL_.sw {l : List Nat} {σ : am_S} (h : WL_ l σ) {a b : Nat} (ha : a < l.length) (hb : b < l.length) : WL_ (sw_ l a b) (ex_ σ a b) := by
  refine ⟨by rw [sw_len]; exact h.1, fun k hk => ?_⟩
  rw [sw_len] at hk
  unfold ex_ sw_
  rw [sI_at, getD_set (by rw [List.length_set]; exact hb), getD_set ha]
  by_cases q : k = b
  · subst q; rw [am_up_same, if_pos rfl]; exact h.2 a ha
  · rw [am_up_ne q, if_neg q]
    by_cases q2 : k = a
    · subst q2; rw [am_up_same, if_pos rfl]; exact h.2 b hb
    · rw [am_up_ne q2, if_neg q2]; exact h.2 k hk
theorem fr_ex {lst : List Nat} {σ σ' : am_S} (h : fr_ lst σ σ') (h8 : 168 ∈ lst) (a b : Nat) : fr_ lst σ (ex_ σ' a b) := fr_sI h h8
def pk_ (l : List Nat) : Nat → Nat
  | 0 => 0
  | m + 1 => if l.getD (m + 1) 0 < l.getD m 0 then pk_ l m else m + 1
def pj_ (l : List Nat) (x : Nat) : Nat → Nat
  | 0 => 0
  | j + 1 => if l.getD (j + 1) 0 < x then pj_ l x j else j + 1
def rv_ : Nat → List Nat → Nat → Nat → List Nat
  | 0, l, _, _ => l
  | f + 1, l, a, b => if a < b then rv_ f (sw_ l a b) (a + 1) (b - 1) else l
theorem rv_len : ∀ (f : Nat) (l : List Nat) (a b : Nat), (rv_ f l a b).length = l.length
  | 0, _, _, _ => rfl
  | f + 1, l, a, b => by
    unfold rv_
    split
    · rw [rv_len f, sw_len]
    · rfl
def nr_ (n : Nat) (l : List Nat) : Option (List Nat) := if pk_ l (n - 1) = 0 then none else some (rv_ n (sw_ l (pk_ l (n - 1) - 1) (pj_ l (l.getD (pk_ l (n - 1) - 1) 0) (n - 1))) (pk_ l (n - 1)) (n - 1))
/-- what nextRow leaves -/
def NR_ (l : List Nat) (σ : am_S) (Q : Option am_V → am_S → Prop) : Prop := (nr_ l.length l = none → Q (some (am_I 0)) σ) ∧ ∀ l', nr_ l.length l = some l' → ∀ σ', fr_ [168] σ σ' → WL_ l' σ' → Q (some (am_I 1)) σ'

theorem l_layFirst {d : Nat} {σ : am_S} {T : sp_T} (hT : TM_ T σ) (hV : TV_ T) {s : Nat} (hs : s < 2 ^ 30) {Q : Option am_V → am_S → Prop} (hQ : ∀ σ', fr_ [168] σ σ' → WL_ (mb_ s (nP_ T)) σ' → Q (some (am_I (((mb_ s (nP_ T)).length : Nat) : Int))) σ') : ∀ (m k : Nat) σ', k + m = nP_ T → fr_ [168] σ σ' → WL_ (mb_ s k) σ' → aW d 0 k_X9_layFirst Q 4 [some (am_R 135), some (am_I ((s : Nat) : Int)), some (am_I (((mb_ s k).length : Nat) : Int)), some (am_I ((k : Nat) : Int))] [] σ' := by
  have h6 := hV.nP
  intro m
  induction m with
  | zero =>
    intro k σ' hk hf hw
    obtain rfl : k = nP_ T := by omega
    refine ax_load (q := 5) rfl rfl rfl rfl rfl ?_
    refine ax_load (q := 6) rfl rfl rfl rfl rfl ?_
    refine ax_getf (q := 9) (v := am_I ((nP_ T : Nat) : Int)) rfl rfl (am_fg rfl ((hT.fr hf (by decide)).s53.trans hV.nP.1)) ?_
    refine ax_icmp_ge (q := 12) (x := 39) rfl rfl (fun h9 => ?_) (fun h => absurd h (by omega))
    refine ax_load (q := 40) rfl rfl rfl rfl rfl ?_
    refine ax_ret (r := some (am_I (((mb_ s (nP_ T)).length : Nat) : Int))) rfl rfl ?_
    exact hQ σ' hf hw
  | succ m ih =>
    intro k σ' hk hf hw
    have hml := mb_le s k
    refine ax_load (q := 5) rfl rfl rfl rfl rfl ?_
    refine ax_load (q := 6) rfl rfl rfl rfl rfl ?_
    refine ax_getf (q := 9) (v := am_I ((nP_ T : Nat) : Int)) rfl rfl (am_fg rfl ((hT.fr hf (by decide)).s53.trans hV.nP.1)) ?_
    refine ax_icmp_ge (q := 12) (x := 39) rfl rfl (fun h => absurd h (by omega)) (fun h9 => ?_)
    refine ax_load (q := 13) rfl rfl rfl rfl rfl ?_
    refine ax_load (q := 14) rfl rfl rfl rfl rfl ?_
    refine ax_ishr (q := 15) (z := am_shr (s : Int) (k : Int)) rfl rfl (rfl) ?_
    refine ax_const (q := 16) (v := am_I 1) rfl rfl rfl ?_
    refine ax_iand (q := 17) (z := if s.testBit k then 1 else 0) rfl rfl (am_bit (by omega) (by omega)) ?_
    refine ax_if_ne (q := 20) (x := 23) rfl rfl (fun h17 => ?_) (fun h17 => ?_)
    · have hb17 := it_n0 h17
      refine ax_load (q := 24) rfl rfl rfl rfl rfl ?_
      refine ax_getf (q := 27) (v := am_R 168) rfl rfl (rfl) ?_
      refine ax_load (q := 28) rfl rfl rfl rfl rfl ?_
      refine ax_load (q := 29) rfl rfl rfl rfl rfl ?_
      refine bx_iast (q := 30) (k := (mb_ s k).length) rfl rfl (rfl) (by omega) (by omega) ?_
      refine ax_iinc (q := 33) (z' := ((((mb_ s k).length) + 1 : Nat) : Int)) (L' := [some (am_R 135), some (am_I ((s : Nat) : Int)), some (am_I ((((mb_ s k).length) + 1 : Nat) : Int)), some (am_I ((k : Nat) : Int))]) rfl rfl rfl rfl (am_we (by omega) (by omega) (by omega)) rfl ?_
      refine ax_iinc (q := 36) (z' := ((k + 1 : Nat) : Int)) (L' := [some (am_R 135), some (am_I ((s : Nat) : Int)), some (am_I ((((mb_ s k).length) + 1 : Nat) : Int)), some (am_I ((k + 1 : Nat) : Int))]) rfl rfl rfl rfl (am_we (by omega) (by omega) (by omega)) rfl ?_
      refine ax_goto (x := 4) rfl ?_
      have e : mb_ s (k + 1) = mb_ s k ++ [k] := if_pos hb17
      have g := ih (k + 1) (am_sI σ' 168 (am_up (σ'.1 168) ((mb_ s k).length) ((k : Nat) : Int))) (by omega) (fr_sI hf (by decide)) (by
          rw [e]
          refine ⟨by rw [List.length_append, List.length_singleton]; omega, fun j hj => ?_⟩
          rw [List.length_append, List.length_singleton] at hj
          rw [sI_at, List.getD_eq_getElem?_getD]
          by_cases q : j = (mb_ s k).length
          · subst q; rw [am_up_same, List.getElem?_append_right (Nat.le_refl _)]; simp
          · rw [am_up_ne q, List.getElem?_append_left (by omega), ← List.getD_eq_getElem?_getD]; exact hw.2 j (by omega))
      rw [e, List.length_append, List.length_singleton] at g
      exact g
    · have hb17 := it_0 h17
      refine ax_goto (x := 33) rfl ?_
      refine ax_iinc (q := 36) (z' := ((k + 1 : Nat) : Int)) (L' := [some (am_R 135), some (am_I ((s : Nat) : Int)), some (am_I (((mb_ s k).length : Nat) : Int)), some (am_I ((k + 1 : Nat) : Int))]) rfl rfl rfl rfl (am_we (by omega) (by omega) (by omega)) rfl ?_
      refine ax_goto (x := 4) rfl ?_
      have e : mb_ s (k + 1) = mb_ s k := if_neg (by rw [hb17]; decide)
      have g := ih (k + 1) σ' (by omega) hf (by rw [e]; exact hw)
      rw [e] at g
      exact g

theorem m_layFirst {d : Nat} (hd : 1 ≤ d) {σ : am_S} {T : sp_T} (hT : TM_ T σ) (hV : TV_ T) {s : Nat} (hs : s < 2 ^ 30) {Q : Option am_V → am_S → Prop} (hQ : ∀ σ', fr_ [168] σ σ' → WL_ (mb_ s (nP_ T)) σ' → Q (some (am_I (((mb_ s (nP_ T)).length : Nat) : Int))) σ') : am_Ev d 238 [am_R 135, am_I ((s : Nat) : Int)] σ Q := by
  obtain ⟨d, rfl⟩ : ∃ e, d = e + 1 := ⟨d - 1, by omega⟩
  refine ev_in (m := 238) (c := k_X9_layFirst) (L := [some (am_R 135), some (am_I ((s : Nat) : Int)), none, none]) rfl rfl rfl rfl rfl rfl ?_
  refine ax_const (q := 1) (v := am_I 0) rfl rfl rfl ?_
  refine ax_store (q := 2) (L' := [some (am_R 135), some (am_I ((s : Nat) : Int)), some (am_I 0), none]) rfl rfl rfl rfl rfl rfl ?_
  refine ax_const (q := 3) (v := am_I 0) rfl rfl rfl ?_
  refine ax_store (q := 4) (L' := [some (am_R 135), some (am_I ((s : Nat) : Int)), some (am_I 0), some (am_I 0)]) rfl rfl rfl rfl rfl rfl ?_
  exact l_layFirst hT hV hs hQ (nP_ T) 0 σ (by omega) (fr_rf _ _) ⟨by show 0 ≤ 6; omega, fun k hk => absurd hk (by show ¬ k < 0; omega)⟩

theorem m_exchangeRow {d : Nat} (hd : 1 ≤ d) {σ : am_S} {a b : Nat} (ha : a < 6) (hb : b < 6) {Q : Option am_V → am_S → Prop} (hQ : Q (none) (ex_ σ a b)) : am_Ev d 240 [am_R 135, am_I ((a : Nat) : Int), am_I ((b : Nat) : Int)] σ Q := by
  obtain ⟨d, rfl⟩ : ∃ e, d = e + 1 := ⟨d - 1, by omega⟩
  refine ev_in (m := 240) (c := k_X9_exchangeRow) (L := [some (am_R 135), some (am_I ((a : Nat) : Int)), some (am_I ((b : Nat) : Int)), none]) rfl rfl rfl rfl rfl rfl ?_
  refine ax_load (q := 1) rfl rfl rfl rfl rfl ?_
  refine ax_getf (q := 4) (v := am_R 168) rfl rfl (rfl) ?_
  refine ax_load (q := 5) rfl rfl rfl rfl rfl ?_
  refine bx_iald (q := 6) (k := a) (z := σ.1 168 a) rfl rfl (rfl) (by omega) (by omega) (rfl) ?_
  refine ax_store (q := 7) (L' := [some (am_R 135), some (am_I ((a : Nat) : Int)), some (am_I ((b : Nat) : Int)), some (am_I (σ.1 168 a))]) rfl rfl rfl rfl rfl rfl ?_
  refine ax_load (q := 8) rfl rfl rfl rfl rfl ?_
  refine ax_getf (q := 11) (v := am_R 168) rfl rfl (rfl) ?_
  refine ax_load (q := 12) rfl rfl rfl rfl rfl ?_
  refine ax_load (q := 13) rfl rfl rfl rfl rfl ?_
  refine ax_getf (q := 16) (v := am_R 168) rfl rfl (rfl) ?_
  refine ax_load (q := 17) rfl rfl rfl rfl rfl ?_
  refine bx_iald (q := 18) (k := b) (z := σ.1 168 b) rfl rfl (rfl) (by omega) (by omega) (rfl) ?_
  refine bx_iast (q := 19) (k := a) rfl rfl (rfl) (by omega) (by omega) ?_
  refine ax_load (q := 20) rfl rfl rfl rfl rfl ?_
  refine ax_getf (q := 23) (v := am_R 168) rfl rfl (rfl) ?_
  refine ax_load (q := 24) rfl rfl rfl rfl rfl ?_
  refine ax_load (q := 25) rfl rfl rfl rfl rfl ?_
  refine bx_iast (q := 26) (k := b) rfl rfl (rfl) (by omega) (by omega) ?_
  refine ax_ret (r := none) rfl rfl ?_
  rw [sI_sI, sI_at]
  exact hQ

theorem l_next3 {d : Nat} (hd : 1 ≤ d) {σ : am_S} {l0 : List Nat} {m : Nat} {y3 : Int} {Q : Option am_V → am_S → Prop} : ∀ (f : Nat) (l : List Nat) (a b : Nat) σ', l.length = l0.length → b + 1 ≤ l.length → b ≤ a + f → fr_ [168] σ σ' → WL_ l σ' → (hQ : ∀ σ', fr_ [168] σ σ' → WL_ (rv_ f l a b) σ' → Q (some (am_I 1)) σ') → aW d 1 k_X9_nextRow Q 78 [some (am_R 135), some (am_I ((l0.length : Nat) : Int)), some (am_I ((m : Nat) : Int)), some (am_I y3), some (am_I ((a : Nat) : Int)), some (am_I ((b : Nat) : Int))] [] σ' := by
  intro f
  induction f with
  | zero =>
    intro l a b σ' hll hb hab hf hw hQ
    refine ax_load (q := 80) rfl rfl rfl rfl rfl ?_
    refine ax_load (q := 82) rfl rfl rfl rfl rfl ?_
    refine ax_icmp_ge (q := 85) (x := 102) rfl rfl (fun h82 => ?_) (fun h => absurd h (by omega))
    refine ax_const (q := 103) (v := am_I 1) rfl rfl rfl ?_
    refine ax_ret (r := some (am_I 1)) rfl ⟨rfl, Or.inr rfl⟩ ?_
    exact hQ σ' hf hw
  | succ f ih =>
    intro l a b σ' hll hb hab hf hw hQ
    have h66 := hw.1
    refine ax_load (q := 80) rfl rfl rfl rfl rfl ?_
    refine ax_load (q := 82) rfl rfl rfl rfl rfl ?_
    refine ax_icmp_ge (q := 85) (x := 102) rfl rfl (fun h82 => ?_) (fun h82 => ?_)
    · refine ax_const (q := 103) (v := am_I 1) rfl rfl rfl ?_
      refine ax_ret (r := some (am_I 1)) rfl ⟨rfl, Or.inr rfl⟩ ?_
      rw [show rv_ (f + 1) l a b = l from if_neg (by omega)] at hQ
      exact hQ σ' hf hw
    · refine ax_load (q := 86) rfl rfl rfl rfl rfl ?_
      refine ax_load (q := 88) rfl rfl rfl rfl rfl ?_
      refine ax_load (q := 90) rfl rfl rfl rfl rfl ?_
      refine ax_callv (q := 93) rfl rfl rfl rfl rfl rfl ?_
      refine m_exchangeRow (by omega) (by omega) (by omega) ?_
      refine ax_iinc (q := 96) (z' := ((a + 1 : Nat) : Int)) (L' := [some (am_R 135), some (am_I ((l0.length : Nat) : Int)), some (am_I ((m : Nat) : Int)), some (am_I y3), some (am_I ((a + 1 : Nat) : Int)), some (am_I ((b : Nat) : Int))]) rfl rfl rfl rfl (am_we (by omega) (by omega) (by omega)) rfl ?_
      refine ax_iinc (q := 99) (z' := (((b - 1) : Nat) : Int)) (L' := [some (am_R 135), some (am_I ((l0.length : Nat) : Int)), some (am_I ((m : Nat) : Int)), some (am_I y3), some (am_I ((a + 1 : Nat) : Int)), some (am_I (((b - 1) : Nat) : Int))]) rfl rfl rfl rfl (am_we (by omega) (by omega) (by omega)) rfl ?_
      refine ax_goto (x := 78) rfl ?_
      rw [show rv_ (f + 1) l a b = rv_ f (sw_ l a b) (a + 1) (b - 1) from if_pos (by omega)] at hQ
      exact ih (sw_ l a b) (a + 1) (b - 1) _ (by rw [sw_len]; exact hll) (by rw [sw_len]; omega) (by omega) (fr_ex hf (by decide) a b) (hw.sw (by omega) (by omega)) hQ

theorem l_next2 {d : Nat} {σ : am_S} {l : List Nat} (hl : WL_ l σ) {m : Nat} (hm : m + 1 < l.length) (hnl : ¬ l.getD (m + 1) 0 < l.getD m 0) {Q : Option am_V → am_S → Prop} {o4 o5 : Option am_V} (hQ : m + 1 ≤ pj_ l (l.getD m 0) (l.length - 1) → pj_ l (l.getD m 0) (l.length - 1) < l.length → aW d 1 k_X9_nextRow Q 62 [some (am_R 135), some (am_I ((l.length : Nat) : Int)), some (am_I ((m : Nat) : Int)), some (am_I ((pj_ l (l.getD m 0) (l.length - 1) : Nat) : Int)), o4, o5] [] σ) : ∀ j : Nat, m + 1 ≤ j → j ≤ l.length - 1 → pj_ l (l.getD m 0) (l.length - 1) = pj_ l (l.getD m 0) j → aW d 1 k_X9_nextRow Q 41 [some (am_R 135), some (am_I ((l.length : Nat) : Int)), some (am_I ((m : Nat) : Int)), some (am_I ((j : Nat) : Int)), o4, o5] [] σ := by
  have h66 := hl.1
  intro j
  induction j with
  | zero =>
    intro h1
    omega
  | succ j ih =>
    intro h1 h2 h3
    refine ax_load (q := 42) rfl rfl rfl rfl rfl ?_
    refine ax_getf (q := 45) (v := am_R 168) rfl rfl (rfl) ?_
    refine ax_load (q := 46) rfl rfl rfl rfl rfl ?_
    refine bx_iald (q := 47) (k := j + 1) (z := ((l.getD (j + 1) 0 : Nat) : Int)) rfl rfl (rfl) (by omega) (by omega) (hl.2 (j + 1) (by omega)) ?_
    refine ax_load (q := 48) rfl rfl rfl rfl rfl ?_
    refine ax_getf (q := 51) (v := am_R 168) rfl rfl (rfl) ?_
    refine ax_load (q := 52) rfl rfl rfl rfl rfl ?_
    refine bx_iald (q := 53) (k := m) (z := ((l.getD m 0 : Nat) : Int)) rfl rfl (rfl) (by omega) (by omega) (hl.2 m (by omega)) ?_
    refine ax_icmp_ge (q := 56) (x := 62) rfl rfl (fun h53 => ?_) (fun h53 => ?_)
    · have e : pj_ l (l.getD m 0) (l.length - 1) = j + 1 := h3.trans (if_neg (by omega))
      rw [e] at hQ
      exact hQ (by omega) (by omega)
    · refine ax_iinc (q := 59) (z' := ((j : Nat) : Int)) (L' := [some (am_R 135), some (am_I ((l.length : Nat) : Int)), some (am_I ((m : Nat) : Int)), some (am_I ((j : Nat) : Int)), o4, o5]) rfl rfl rfl rfl (am_we (by omega) (by omega) (by omega)) rfl ?_
      refine ax_goto (x := 41) rfl ?_
      refine ih (by have : j + 1 ≠ m + 1 := fun q => hnl (by rw [← q]; omega); omega) (by omega) (h3.trans (if_pos (by omega)))

theorem l_next1 {d : Nat} (hd : 1 ≤ d) {σ : am_S} {l : List Nat} (hl : WL_ l σ) (h0 : 1 ≤ l.length) {Q : Option am_V → am_S → Prop} (hQ : NR_ l σ Q) : ∀ m : Nat, m ≤ l.length - 1 → pk_ l (l.length - 1) = pk_ l m → aW d 1 k_X9_nextRow Q 4 [some (am_R 135), some (am_I ((l.length : Nat) : Int)), some (am_I (((m : Nat) : Int) - 1)), none, none, none] [] σ := by
  have h66 := hl.1
  intro m
  induction m with
  | zero =>
    intro hm hp
    have e : nr_ l.length l = none := by unfold nr_; rw [hp]; rfl
    rw [show (((0 : Nat) : Int) - 1) = -1 from rfl]
    refine ax_load (q := 5) rfl rfl rfl rfl rfl ?_
    refine ax_if_lt (q := 8) (x := 31) rfl rfl (fun h5 => ?_) (fun h => absurd h (by decide))
    refine ax_load (q := 32) rfl rfl rfl rfl rfl ?_
    refine ax_if_ge (q := 35) (x := 37) rfl rfl (fun h => absurd h (by decide)) (fun h32 => ?_)
    refine ax_const (q := 36) (v := am_I 0) rfl rfl rfl ?_
    refine ax_ret (r := some (am_I 0)) rfl ⟨rfl, Or.inl rfl⟩ ?_
    exact hQ.1 e
  | succ m ih =>
    intro hm hp
    rw [show (((m + 1 : Nat) : Int) - 1) = ((m : Nat) : Int) by omega]
    refine ax_load (q := 5) rfl rfl rfl rfl rfl ?_
    refine ax_if_lt (q := 8) (x := 31) rfl rfl (fun h => absurd h (by omega)) (fun h5 => ?_)
    refine ax_load (q := 9) rfl rfl rfl rfl rfl ?_
    refine ax_getf (q := 12) (v := am_R 168) rfl rfl (rfl) ?_
    refine ax_load (q := 13) rfl rfl rfl rfl rfl ?_
    refine bx_iald (q := 14) (k := m) (z := ((l.getD m 0 : Nat) : Int)) rfl rfl (rfl) (by omega) (by omega) (hl.2 m (by omega)) ?_
    refine ax_load (q := 15) rfl rfl rfl rfl rfl ?_
    refine ax_getf (q := 18) (v := am_R 168) rfl rfl (rfl) ?_
    refine ax_load (q := 19) rfl rfl rfl rfl rfl ?_
    refine ax_const (q := 20) (v := am_I 1) rfl rfl rfl ?_
    refine ax_iadd (q := 21) (z := ((m + 1 : Nat) : Int)) rfl rfl (am_we (by omega) (by omega) (by omega)) ?_
    refine bx_iald (q := 22) (k := m + 1) (z := ((l.getD (m + 1) 0 : Nat) : Int)) rfl rfl (rfl) (by omega) (by omega) (hl.2 (m + 1) (by omega)) ?_
    refine ax_icmp_le (q := 25) (x := 31) rfl rfl (fun h22 => ?_) (fun h22 => ?_)
    · refine ax_load (q := 32) rfl rfl rfl rfl rfl ?_
      refine ax_if_ge (q := 35) (x := 37) rfl rfl (fun h32 => ?_) (fun h => absurd h (by omega))
      refine ax_load (q := 38) rfl rfl rfl rfl rfl ?_
      refine ax_const (q := 39) (v := am_I 1) rfl rfl rfl ?_
      refine ax_isub (q := 40) (z := (((l.length - 1) : Nat) : Int)) rfl rfl (am_we (by omega) (by omega) (by omega)) ?_
      refine ax_store (q := 41) (L' := [some (am_R 135), some (am_I ((l.length : Nat) : Int)), some (am_I ((m : Nat) : Int)), some (am_I (((l.length - 1) : Nat) : Int)), none, none]) rfl rfl rfl rfl rfl rfl ?_
      refine l_next2 (d := d) hl (m := m) (by omega) (by omega) (o4 := none) (o5 := none) (fun hj1 hj2 => ?_) (l.length - 1) (by omega) (Nat.le_refl _) rfl
      refine ax_load (q := 63) rfl rfl rfl rfl rfl ?_
      refine ax_load (q := 64) rfl rfl rfl rfl rfl ?_
      refine ax_load (q := 65) rfl rfl rfl rfl rfl ?_
      refine ax_callv (q := 68) rfl rfl rfl rfl rfl rfl ?_
      refine m_exchangeRow (by omega) (by omega) (by omega) ?_
      refine ax_load (q := 69) rfl rfl rfl rfl rfl ?_
      refine ax_const (q := 70) (v := am_I 1) rfl rfl rfl ?_
      refine ax_iadd (q := 71) (z := ((m + 1 : Nat) : Int)) rfl rfl (am_we (by omega) (by omega) (by omega)) ?_
      refine ax_store (q := 73) (L' := [some (am_R 135), some (am_I ((l.length : Nat) : Int)), some (am_I ((m : Nat) : Int)), some (am_I (((pj_ l (l.getD m 0) (l.length - 1)) : Nat) : Int)), some (am_I ((m + 1 : Nat) : Int)), none]) rfl rfl rfl rfl rfl rfl ?_
      refine ax_load (q := 74) rfl rfl rfl rfl rfl ?_
      refine ax_const (q := 75) (v := am_I 1) rfl rfl rfl ?_
      refine ax_isub (q := 76) (z := (((l.length - 1) : Nat) : Int)) rfl rfl (am_we (by omega) (by omega) (by omega)) ?_
      refine ax_store (q := 78) (L' := [some (am_R 135), some (am_I ((l.length : Nat) : Int)), some (am_I ((m : Nat) : Int)), some (am_I (((pj_ l (l.getD m 0) (l.length - 1)) : Nat) : Int)), some (am_I ((m + 1 : Nat) : Int)), some (am_I (((l.length - 1) : Nat) : Int))]) rfl rfl rfl rfl rfl rfl ?_
      have e1 : pk_ l (m + 1) = m + 1 := if_neg (by omega)
      have e : nr_ l.length l = some (rv_ l.length (sw_ l m (pj_ l (l.getD m 0) (l.length - 1))) (m + 1) (l.length - 1)) := by unfold nr_; rw [hp, e1, if_neg (by omega)]; rfl
      exact l_next3 (σ := σ) (l0 := l) (by omega) l.length (sw_ l m (pj_ l (l.getD m 0) (l.length - 1))) (m + 1) (l.length - 1) _ (sw_len _ _ _) (by rw [sw_len]; omega) (by omega) (fr_ex (fr_rf _ _) (by decide) _ _) (hl.sw (by omega) (by omega)) (fun σ' hf hw => hQ.2 _ e σ' hf hw)
    · refine ax_iinc (q := 28) (z' := ((m : Nat) : Int) - 1) (L' := [some (am_R 135), some (am_I ((l.length : Nat) : Int)), some (am_I (((m : Nat) : Int) - 1)), none, none, none]) rfl rfl rfl rfl (am_we (by omega) (by omega) (by omega)) rfl ?_
      refine ax_goto (x := 4) rfl ?_
      exact ih (by omega) (hp.trans (if_pos (by omega)))

theorem m_nextRow {d : Nat} (hd : 2 ≤ d) {σ : am_S} {l : List Nat} (hl : WL_ l σ) {Q : Option am_V → am_S → Prop} (hQ : NR_ l σ Q) : am_Ev d 239 [am_R 135, am_I ((l.length : Nat) : Int)] σ Q := by
  obtain ⟨d, rfl⟩ : ∃ e, d = e + 1 := ⟨d - 1, by omega⟩
  have h66 := hl.1
  refine ev_in (m := 239) (c := k_X9_nextRow) (L := [some (am_R 135), some (am_I ((l.length : Nat) : Int)), none, none, none, none]) rfl rfl rfl rfl rfl rfl ?_
  by_cases h0 : l.length = 0
  · refine ax_load (q := 1) rfl rfl rfl rfl rfl ?_
    refine ax_const (q := 2) (v := am_I 2) rfl rfl rfl ?_
    refine ax_isub (q := 3) (z := ((l.length : Nat) : Int) - 2) rfl rfl (am_we (by omega) (by omega) (by omega)) ?_
    refine ax_store (q := 4) (L' := [some (am_R 135), some (am_I ((l.length : Nat) : Int)), some (am_I (((l.length : Nat) : Int) - 2)), none, none, none]) rfl rfl rfl rfl rfl rfl ?_
    refine ax_load (q := 5) rfl rfl rfl rfl rfl ?_
    refine ax_if_lt (q := 8) (x := 31) rfl rfl (fun h5 => ?_) (fun h => absurd h (by omega))
    refine ax_load (q := 32) rfl rfl rfl rfl rfl ?_
    refine ax_if_ge (q := 35) (x := 37) rfl rfl (fun h => absurd h (by omega)) (fun h32 => ?_)
    refine ax_const (q := 36) (v := am_I 0) rfl rfl rfl ?_
    refine ax_ret (r := some (am_I 0)) rfl ⟨rfl, Or.inl rfl⟩ ?_
    exact hQ.1 (by unfold nr_; rw [h0]; rfl)
  · refine ax_load (q := 1) rfl rfl rfl rfl rfl ?_
    refine ax_const (q := 2) (v := am_I 2) rfl rfl rfl ?_
    refine ax_isub (q := 3) (z := ((l.length : Nat) : Int) - 2) rfl rfl (am_we (by omega) (by omega) (by omega)) ?_
    refine ax_store (q := 4) (L' := [some (am_R 135), some (am_I ((l.length : Nat) : Int)), some (am_I (((l.length : Nat) : Int) - 2)), none, none, none]) rfl rfl rfl rfl rfl rfl ?_
    have g := l_next1 (d := d) (by omega) hl (by omega) hQ (l.length - 1) (Nat.le_refl _) rfl
    rw [show (((l.length - 1 : Nat) : Int) - 1) = (((l.length : Nat) : Int) - 2) by omega] at g
    exact g

/-! what rows are worth -/
def RG_ (M : List Nat) (σ : am_S) : Prop := ∀ k, k < M.length → σ.1 169 k = (M.getD k 0 : Int)
def ow_ (T : sp_T) (v : sp_V) (M l : List Nat) (k : Nat) : Int := ho_ T v (M.getD k 0) (l.getD k 0)
def rg_ (T : sp_T) (v : sp_V) (M l : List Nat) : Int := if an_ M.length (fun k => decide (ow_ T v M l k < ow_ T v M M k)) then -1 else su_ M.length (ow_ T v M l)
theorem an_mono {p : Nat → Bool} {k : Nat} (h : an_ k p = true) : ∀ m, an_ (k + m) p = true
  | 0 => h
  | m + 1 => by
    show (an_ (k + m) p || p (k + m)) = true
    rw [an_mono h m, Bool.true_or]
theorem ho_bd {T : sp_T} {b : Int} {v : sp_V} (hV : TV_ T) (hW : VV_ T b v) {p l : Nat} (hl : l < nP_ T) : 0 ≤ ho_ T v p l ∧ ho_ T v p l ≤ 9 := by
  have h1 := (hW.2.2 l hl).2.1
  have h2 := hV.nO
  unfold ho_
  split
  · omega
  · have := hV.wo (o := (v (6 + l)).toNat) (by omega)
    split <;> omega
def ob_ (T : sp_T) (v : sp_V) (l : List Nat) : Nat → sp_V
  | 0 => v
  | k + 1 => op_ T (ob_ T v l k) (l.getD k 0)
def db_ (T : sp_T) (v : sp_V) (l : List Nat) : Nat := ct_ l.length (fun k => decide (ob_ T v l (k + 1) (12 + l.getD k 0) = 2))
theorem VV_.ob {T : sp_T} {b : Int} {v : sp_V} (h : VV_ T b v) (hV : TV_ T) {l : List Nat} (hl : ∀ k, k < l.length → l.getD k 0 < nP_ T) : ∀ k, k ≤ l.length → VV_ T b (ob_ T v l k)
  | 0, _ => h
  | k + 1, hk => (VV_.ob h hV hl k (by omega)).op hV (hl k (by omega))
theorem op_cg {T : sp_T} {b : Int} (hV : TV_ T) {v w : sp_V} (h : ∀ j, j < 50 → v j = w j) {p : Nat} (hp : p < nP_ T) (hW : VV_ T b w) : ∀ j, j < 50 → op_ T v p j = op_ T w p j := by
  have h6 := hV.nP
  have hO := hV.nO
  have h1 := (hW.2.2 p hp).2.1
  have eu : ∀ o, ud_ T v o = ud_ T w o := fun o => by unfold ud_; rw [h 48 (by omega)]
  have up2 : ∀ (x y : sp_V) (k : Nat) (z : Int), (∀ j, j < 50 → x j = y j) → ∀ j, j < 50 → am_up x k z j = am_up y k z j := fun x y k z hh j hj => by
    by_cases q : j = k
    · subst q; rw [am_up_same, am_up_same]
    · rw [am_up_ne q, am_up_ne q]; exact hh j hj
  intro j hj
  unfold op_
  rw [h (6 + p) (by omega), h 48 (by omega), eu]
  split
  · exact up2 _ _ _ _ h j hj
  · next q =>
    rw [cn_cg hV h (by omega) (show (w (6 + p)).toNat < nO_ T by omega)]
    split
    · exact up2 _ _ _ _ (up2 _ _ _ _ h) j hj
    · exact up2 _ _ _ _ h j hj
theorem ob_cg {T : sp_T} {b : Int} (hV : TV_ T) {v w : sp_V} (h : ∀ j, j < 50 → v j = w j) (hW : VV_ T b w) {l : List Nat} (hl : ∀ k, k < l.length → l.getD k 0 < nP_ T) : ∀ k, k ≤ l.length → ∀ j, j < 50 → ob_ T v l k j = ob_ T w l k j
  | 0, _ => h
  | k + 1, hk => op_cg hV (ob_cg hV h hW hl k (by omega)) (hl k (by omega)) (hW.ob hV hl k (by omega))
theorem db_cg {T : sp_T} {b : Int} (hV : TV_ T) {v w : sp_V} (h : ∀ j, j < 50 → v j = w j) (hW : VV_ T b w) {l : List Nat} (hl : ∀ k, k < l.length → l.getD k 0 < nP_ T) : db_ T v l = db_ T w l := by
  have h6 := hV.nP
  unfold db_
  exact ct_eq _ (fun k hk => by rw [ob_cg hV h hW hl (k + 1) (by omega) _ (by have := hl k hk; omega)])

theorem l_ringWorth {d : Nat} (hd : 3 ≤ d) {σ : am_S} {T : sp_T} (hT : TM_ T σ) (hV : TV_ T) {b : Int} {v : sp_V} (ha : σ.1 164 = v) (hW : VV_ T b v) {M l : List Nat} (hM : RG_ M σ) (hl : WL_ l σ) (hlen : l.length = M.length) (hMp : ∀ k, k < M.length → M.getD k 0 < nP_ T) (hlp : ∀ k, k < M.length → l.getD k 0 < nP_ T) {Q : Option am_V → am_S → Prop} (hQ : Q (some (am_I (rg_ T v M l))) σ) : ∀ (m k : Nat) (o4 : Option am_V), k + m = M.length → an_ k (fun k => decide (ow_ T v M l k < ow_ T v M M k)) = false → aW d 0 k_X9_ringWorth Q 4 [some (am_R 135), some (am_I ((M.length : Nat) : Int)), some (am_I (su_ k (ow_ T v M l))), some (am_I ((k : Nat) : Int)), o4] [] σ := by
  have h66 := hl.1
  have h6 := hV.nP
  intro m
  induction m with
  | zero =>
    intro k o4 hk han
    obtain rfl : k = M.length := by omega
    refine ax_load (q := 5) rfl rfl rfl rfl rfl ?_
    refine ax_load (q := 6) rfl rfl rfl rfl rfl ?_
    refine ax_icmp_ge (q := 9) (x := 61) rfl rfl (fun h6 => ?_) (fun h => absurd h (by omega))
    refine ax_load (q := 62) rfl rfl rfl rfl rfl ?_
    refine ax_ret (r := some (am_I (su_ (M.length) (ow_ T v M l)))) rfl rfl ?_
    rw [show rg_ T v M l = su_ M.length (ow_ T v M l) from if_neg (by rw [han]; decide)] at hQ
    exact hQ
  | succ m ih =>
    intro k o4 hk han
    have hb1 := su_bd (f := ow_ T v M l) (b := 9) (by omega) k (fun j hj => ho_bd hV hW (hlp j (by omega)))
    have hb2 : 0 ≤ ow_ T v M l k ∧ ow_ T v M l k ≤ 9 := ho_bd hV hW (hlp k (by omega))
    refine ax_load (q := 5) rfl rfl rfl rfl rfl ?_
    refine ax_load (q := 6) rfl rfl rfl rfl rfl ?_
    refine ax_icmp_ge (q := 9) (x := 61) rfl rfl (fun h => absurd h (by omega)) (fun h6 => ?_)
    refine ax_load (q := 10) rfl rfl rfl rfl rfl ?_
    refine ax_load (q := 11) rfl rfl rfl rfl rfl ?_
    refine ax_getf (q := 14) (v := am_R 169) rfl rfl (rfl) ?_
    refine ax_load (q := 15) rfl rfl rfl rfl rfl ?_
    refine bx_iald (q := 16) (k := k) (z := ((M.getD k 0 : Nat) : Int)) rfl rfl (rfl) (by omega) (by omega) (hM k (by omega)) ?_
    refine ax_load (q := 17) rfl rfl rfl rfl rfl ?_
    refine ax_getf (q := 20) (v := am_R 168) rfl rfl (rfl) ?_
    refine ax_load (q := 21) rfl rfl rfl rfl rfl ?_
    refine bx_iald (q := 22) (k := k) (z := ((l.getD k 0 : Nat) : Int)) rfl rfl (rfl) (by omega) (by omega) (hl.2 k (by omega)) ?_
    refine ax_callv (q := 25) rfl rfl rfl rfl rfl rfl ?_
    refine m_hasOf (by omega) hT hV ha hW (hMp k (by omega)) (hlp k (by omega)) ?_
    refine ax_store (q := 27) (L' := [some (am_R 135), some (am_I ((M.length : Nat) : Int)), some (am_I (su_ k (ow_ T v M l))), some (am_I ((k : Nat) : Int)), some (am_I (ow_ T v M l k))]) rfl rfl rfl rfl rfl rfl ?_
    refine ax_load (q := 29) rfl rfl rfl rfl rfl ?_
    refine ax_load (q := 30) rfl rfl rfl rfl rfl ?_
    refine ax_load (q := 31) rfl rfl rfl rfl rfl ?_
    refine ax_getf (q := 34) (v := am_R 169) rfl rfl (rfl) ?_
    refine ax_load (q := 35) rfl rfl rfl rfl rfl ?_
    refine bx_iald (q := 36) (k := k) (z := ((M.getD k 0 : Nat) : Int)) rfl rfl (rfl) (by omega) (by omega) (hM k (by omega)) ?_
    refine ax_load (q := 37) rfl rfl rfl rfl rfl ?_
    refine ax_getf (q := 40) (v := am_R 169) rfl rfl (rfl) ?_
    refine ax_load (q := 41) rfl rfl rfl rfl rfl ?_
    refine bx_iald (q := 42) (k := k) (z := ((M.getD k 0 : Nat) : Int)) rfl rfl (rfl) (by omega) (by omega) (hM k (by omega)) ?_
    refine ax_callv (q := 45) rfl rfl rfl rfl rfl rfl ?_
    refine m_hasOf (by omega) hT hV ha hW (hMp k (by omega)) (hMp k (by omega)) ?_
    refine ax_icmp_ge (q := 48) (x := 50) rfl rfl (fun h45 => ?_) (fun h45 => ?_)
    · have h45 : ow_ T v M M k ≤ ow_ T v M l k := h45
      refine ax_load (q := 51) rfl rfl rfl rfl rfl ?_
      refine ax_load (q := 53) rfl rfl rfl rfl rfl ?_
      refine ax_iadd (q := 54) (z := su_ k (ow_ T v M l) + (ow_ T v M l k)) rfl rfl (am_we (by omega) (by omega) (by omega)) ?_
      refine ax_store (q := 55) (L' := [some (am_R 135), some (am_I ((M.length : Nat) : Int)), some (am_I (su_ k (ow_ T v M l) + (ow_ T v M l k))), some (am_I ((k : Nat) : Int)), some (am_I (ow_ T v M l k))]) rfl rfl rfl rfl rfl rfl ?_
      refine ax_iinc (q := 58) (z' := ((k + 1 : Nat) : Int)) (L' := [some (am_R 135), some (am_I ((M.length : Nat) : Int)), some (am_I (su_ k (ow_ T v M l) + (ow_ T v M l k))), some (am_I ((k + 1 : Nat) : Int)), some (am_I (ow_ T v M l k))]) rfl rfl rfl rfl (am_we (by omega) (by omega) (by omega)) rfl ?_
      refine ax_goto (x := 4) rfl ?_
      exact ih (k + 1) _ (by omega) (by show (an_ k _ || decide (ow_ T v M l k < ow_ T v M M k)) = false; rw [han, decide_eq_false (show ¬ ow_ T v M l k < ow_ T v M M k by omega)]; rfl)
    · have h45 : ow_ T v M l k < ow_ T v M M k := h45
      refine ax_const (q := 49) (v := am_I (-1)) rfl rfl rfl ?_
      refine ax_ret (r := some (am_I (-1))) rfl rfl ?_
      have e : an_ M.length (fun k => decide (ow_ T v M l k < ow_ T v M M k)) = true := by
        rw [show M.length = (k + 1) + m by omega]
        refine an_mono ?_ m
        show (an_ k _ || decide (ow_ T v M l k < ow_ T v M M k)) = true
        rw [decide_eq_true (show ow_ T v M l k < ow_ T v M M k by omega), Bool.or_true]
      rw [show rg_ T v M l = -1 from if_pos e] at hQ
      exact hQ

theorem m_ringWorth {d : Nat} (hd : 4 ≤ d) {σ : am_S} {T : sp_T} (hT : TM_ T σ) (hV : TV_ T) {b : Int} {v : sp_V} (ha : σ.1 164 = v) (hW : VV_ T b v) {M l : List Nat} (hM : RG_ M σ) (hl : WL_ l σ) (hlen : l.length = M.length) (hMp : ∀ k, k < M.length → M.getD k 0 < nP_ T) (hlp : ∀ k, k < M.length → l.getD k 0 < nP_ T) {Q : Option am_V → am_S → Prop} (hQ : Q (some (am_I (rg_ T v M l))) σ) : am_Ev d 242 [am_R 135, am_I ((M.length : Nat) : Int)] σ Q := by
  obtain ⟨d, rfl⟩ : ∃ e, d = e + 1 := ⟨d - 1, by omega⟩
  refine ev_in (m := 242) (c := k_X9_ringWorth) (L := [some (am_R 135), some (am_I ((M.length : Nat) : Int)), none, none, none]) rfl rfl rfl rfl rfl rfl ?_
  refine ax_const (q := 1) (v := am_I 0) rfl rfl rfl ?_
  refine ax_store (q := 2) (L' := [some (am_R 135), some (am_I ((M.length : Nat) : Int)), some (am_I 0), none, none]) rfl rfl rfl rfl rfl rfl ?_
  refine ax_const (q := 3) (v := am_I 0) rfl rfl rfl ?_
  refine ax_store (q := 4) (L' := [some (am_R 135), some (am_I ((M.length : Nat) : Int)), some (am_I 0), some (am_I 0), none]) rfl rfl rfl rfl rfl rfl ?_
  exact l_ringWorth (by omega) hT hV ha hW hM hl hlen hMp hlp hQ M.length 0 none (by omega) rfl

theorem l_doneBy {d : Nat} (hd : 5 ≤ d) {σ : am_S} {T : sp_T} (hT : TM_ T σ) (hV : TV_ T) {b : Int} {v : sp_V} (hW : VV_ T b v) {l : List Nat} (hl : WL_ l σ) (hlp : ∀ k, k < l.length → l.getD k 0 < nP_ T) {Q : Option am_V → am_S → Prop} (hQ : ∀ σ', fr_ [164] σ σ' → Q (some (am_I ((db_ T v l : Nat) : Int))) σ') : ∀ (m k : Nat) σ', k + m = l.length → fr_ [164] σ σ' → σ'.1 164 = ob_ T v l k → aW d 0 k_X9_doneBy Q 8 [some (am_R 135), some (am_I ((l.length : Nat) : Int)), some (am_I ((ct_ k (fun k => decide (ob_ T v l (k + 1) (12 + l.getD k 0) = 2)) : Nat) : Int)), some (am_I ((k : Nat) : Int))] [] σ' := by
  have h66 := hl.1
  have h6 := hV.nP
  intro m
  induction m with
  | zero =>
    intro k σ' hk hf hx
    obtain rfl : k = l.length := by omega
    refine ax_load (q := 9) rfl rfl rfl rfl rfl ?_
    refine ax_load (q := 10) rfl rfl rfl rfl rfl ?_
    refine ax_icmp_ge (q := 13) (x := 58) rfl rfl (fun h10 => ?_) (fun h => absurd h (by omega))
    refine ax_load (q := 59) rfl rfl rfl rfl rfl ?_
    refine ax_ret (r := some (am_I ((ct_ (l.length) (fun k => decide (ob_ T v l (k + 1) (12 + l.getD k 0) = 2)) : Nat) : Int))) rfl rfl ?_
    exact hQ σ' hf
  | succ m ih =>
    intro k σ' hk hf hx
    have hc := ct_le (fun k => decide (ob_ T v l (k + 1) (12 + l.getD k 0) = 2)) k
    have hk6 := hlp k (by omega)
    refine ax_load (q := 9) rfl rfl rfl rfl rfl ?_
    refine ax_load (q := 10) rfl rfl rfl rfl rfl ?_
    refine ax_icmp_ge (q := 13) (x := 58) rfl rfl (fun h => absurd h (by omega)) (fun h10 => ?_)
    refine ax_load (q := 14) rfl rfl rfl rfl rfl ?_
    refine ax_load (q := 15) rfl rfl rfl rfl rfl ?_
    refine ax_getf (q := 18) (v := am_R 168) rfl rfl (rfl) ?_
    refine ax_load (q := 19) rfl rfl rfl rfl rfl ?_
    refine bx_iald (q := 20) (k := k) (z := ((l.getD k 0 : Nat) : Int)) rfl rfl (rfl) (by omega) (by omega) (((congrFun (hf.1 168 (by decide)) _).trans (hl.2 k (by omega)))) ?_
    refine ax_callv (q := 23) rfl rfl rfl rfl rfl rfl ?_
    refine m_openOf (by omega) (hT.fr hf (by decide)) hV hx (hW.ob hV hlp k (by omega)) hk6 ?_
    refine ax_load (q := 24) rfl rfl rfl rfl rfl ?_
    refine ax_load (q := 25) rfl rfl rfl rfl rfl ?_
    refine ax_getf (q := 28) (v := am_R 164) rfl rfl (rfl) ?_
    refine ax_const (q := 30) (v := am_I 12) rfl rfl rfl ?_
    refine ax_load (q := 31) rfl rfl rfl rfl rfl ?_
    refine ax_getf (q := 34) (v := am_R 168) rfl rfl (rfl) ?_
    refine ax_load (q := 35) rfl rfl rfl rfl rfl ?_
    refine bx_iald (q := 36) (k := k) (z := ((l.getD k 0 : Nat) : Int)) rfl rfl (rfl) (by omega) (by omega) ((congrFun (sI_ne (by decide)) _).trans ((congrFun (hf.1 168 (by decide)) _).trans (hl.2 k (by omega)))) ?_
    refine ax_iadd (q := 37) (z := ((12 + (l.getD k 0) : Nat) : Int)) rfl rfl (am_we (by omega) (by omega) (by omega)) ?_
    refine bx_iald (q := 38) (k := 12 + (l.getD k 0)) (z := op_ T (ob_ T v l k) (l.getD k 0) (12 + l.getD k 0)) rfl rfl (rfl) (by omega) (by omega) (congrFun (sI_at _ _ _) _) ?_
    refine ax_const (q := 39) (v := am_I 2) rfl rfl rfl ?_
    refine ax_icmp_ne (q := 42) (x := 46) rfl rfl (fun h39 => ?_) (fun h39 => ?_)
    · refine ax_const (q := 47) (v := am_I 0) rfl rfl rfl ?_
      refine ax_calls (q := 50) rfl rfl rfl rfl rfl ?_
      refine m_truthz (by omega) (Or.inl rfl) ?_
      refine ax_iadd (q := 51) (z := (((ct_ k (fun k => decide (ob_ T v l (k + 1) (12 + l.getD k 0) = 2))) + 0 : Nat) : Int)) rfl rfl (am_we (by omega) (by omega) (by omega)) ?_
      refine ax_store (q := 52) (L' := [some (am_R 135), some (am_I ((l.length : Nat) : Int)), some (am_I (((ct_ k (fun k => decide (ob_ T v l (k + 1) (12 + l.getD k 0) = 2))) + 0 : Nat) : Int)), some (am_I ((k : Nat) : Int))]) rfl rfl rfl rfl rfl rfl ?_
      refine ax_iinc (q := 55) (z' := ((k + 1 : Nat) : Int)) (L' := [some (am_R 135), some (am_I ((l.length : Nat) : Int)), some (am_I (((ct_ k (fun k => decide (ob_ T v l (k + 1) (12 + l.getD k 0) = 2))) + 0 : Nat) : Int)), some (am_I ((k + 1 : Nat) : Int))]) rfl rfl rfl rfl (am_we (by omega) (by omega) (by omega)) rfl ?_
      refine ax_goto (x := 8) rfl ?_
      have e : ct_ (k + 1) (fun k => decide (ob_ T v l (k + 1) (12 + l.getD k 0) = 2)) = ct_ k (fun k => decide (ob_ T v l (k + 1) (12 + l.getD k 0) = 2)) + 0 := by
        show ct_ k _ + (if decide (op_ T (ob_ T v l k) (l.getD k 0) (12 + l.getD k 0) = 2) = true then 1 else 0) = _
        rw [decide_eq_false h39]
        rfl
      have g := ih (k + 1) _ (by omega) (fr_sI hf (by decide)) (sI_at σ' 164 (op_ T (ob_ T v l k) (l.getD k 0)))
      rw [e] at g
      exact g
    · refine ax_const (q := 43) (v := am_I 1) rfl rfl rfl ?_
      refine ax_goto (x := 47) rfl ?_
      refine ax_calls (q := 50) rfl rfl rfl rfl rfl ?_
      refine m_truthz (by omega) (Or.inr rfl) ?_
      refine ax_iadd (q := 51) (z := (((ct_ k (fun k => decide (ob_ T v l (k + 1) (12 + l.getD k 0) = 2))) + 1 : Nat) : Int)) rfl rfl (am_we (by omega) (by omega) (by omega)) ?_
      refine ax_store (q := 52) (L' := [some (am_R 135), some (am_I ((l.length : Nat) : Int)), some (am_I (((ct_ k (fun k => decide (ob_ T v l (k + 1) (12 + l.getD k 0) = 2))) + 1 : Nat) : Int)), some (am_I ((k : Nat) : Int))]) rfl rfl rfl rfl rfl rfl ?_
      refine ax_iinc (q := 55) (z' := ((k + 1 : Nat) : Int)) (L' := [some (am_R 135), some (am_I ((l.length : Nat) : Int)), some (am_I (((ct_ k (fun k => decide (ob_ T v l (k + 1) (12 + l.getD k 0) = 2))) + 1 : Nat) : Int)), some (am_I ((k + 1 : Nat) : Int))]) rfl rfl rfl rfl (am_we (by omega) (by omega) (by omega)) rfl ?_
      refine ax_goto (x := 8) rfl ?_
      have e : ct_ (k + 1) (fun k => decide (ob_ T v l (k + 1) (12 + l.getD k 0) = 2)) = ct_ k (fun k => decide (ob_ T v l (k + 1) (12 + l.getD k 0) = 2)) + 1 := by
        show ct_ k _ + (if decide (op_ T (ob_ T v l k) (l.getD k 0) (12 + l.getD k 0) = 2) = true then 1 else 0) = _
        rw [decide_eq_true h39]
        rfl
      have g := ih (k + 1) _ (by omega) (fr_sI hf (by decide)) (sI_at σ' 164 (op_ T (ob_ T v l k) (l.getD k 0)))
      rw [e] at g
      exact g

theorem m_doneBy {d : Nat} (hd : 6 ≤ d) {σ : am_S} {T : sp_T} (hT : TM_ T σ) (hV : TV_ T) {b : Int} {v w : sp_V} (hw : σ.1 163 = w) (hvw : ∀ j, j < 50 → v j = w j) (hW : VV_ T b w) {l : List Nat} (hl : WL_ l σ) (hlp : ∀ k, k < l.length → l.getD k 0 < nP_ T) {Q : Option am_V → am_S → Prop} (hQ : ∀ σ', fr_ [164] σ σ' → Q (some (am_I ((db_ T v l : Nat) : Int))) σ') : am_Ev d 244 [am_R 135, am_I ((l.length : Nat) : Int)] σ Q := by
  obtain ⟨d, rfl⟩ : ∃ e, d = e + 1 := ⟨d - 1, by omega⟩
  have h6 := hV.nP
  obtain ⟨u, hu⟩ : ∃ u, u = cp_ w (σ.1 164) 50 := ⟨_, rfl⟩
  have huw : ∀ j, j < 50 → u j = w j := fun j hj => by rw [hu]; exact cp_at hj
  have hWu : VV_ T b u := hW.cg hV huw
  rw [show db_ T v l = db_ T u l from db_cg hV (fun j hj => (hvw j hj).trans (huw j hj).symm) hWu hlp] at hQ
  refine ev_in (m := 244) (c := k_X9_doneBy) (L := [some (am_R 135), some (am_I ((l.length : Nat) : Int)), none, none]) rfl rfl rfl rfl rfl rfl ?_
  refine ax_load (q := 1) rfl rfl rfl rfl rfl ?_
  refine ax_callv (q := 4) rfl rfl rfl rfl rfl rfl ?_
  refine m_load (by omega) ?_
  rw [hw, ← hu]
  refine ax_const (q := 5) (v := am_I 0) rfl rfl rfl ?_
  refine ax_store (q := 6) (L' := [some (am_R 135), some (am_I ((l.length : Nat) : Int)), some (am_I 0), none]) rfl rfl rfl rfl rfl rfl ?_
  refine ax_const (q := 7) (v := am_I 0) rfl rfl rfl ?_
  refine ax_store (q := 8) (L' := [some (am_R 135), some (am_I ((l.length : Nat) : Int)), some (am_I 0), some (am_I 0)]) rfl rfl rfl rfl rfl rfl ?_
  exact l_doneBy (σ := am_sI σ 164 u) (by omega) (hT.sI (by decide)) hV hWu (l := l) ⟨hl.1, fun k hk => by rw [sI_ne (by decide)]; exact hl.2 k hk⟩ hlp (fun σ' hf => hQ σ' (fr_tr (l := [164]) (fr_sI (fr_rf _ _) (by decide)) hf (fun a h => h))) l.length 0 _ (by omega) (fr_rf _ _) (sI_at _ _ _)

/-! all rows of a set -/
def fa_ : Nat → Nat
  | 0 => 1
  | n + 1 => (n + 1) * fa_ n
/-- the row that number r tells, of those left -/
def tt_ : Nat → List Nat → Nat → Nat → List Nat
  | 0, _, _, _ => []
  | n + 1, left, block, r => left.getD (r / max 1 (block / (n + 1))) 0 :: tt_ n (left.erase (left.getD (r / max 1 (block / (n + 1))) 0)) (max 1 (block / (n + 1))) (r % max 1 (block / (n + 1)))
def rs_ (M : List Nat) : List (List Nat) := (List.range (fa_ M.length)).map (tt_ M.length M (fa_ M.length))
def nd_ (M : List Nat) : Bool := (List.range M.length).all fun i => (List.range M.length).all fun j => decide (M.getD i 0 = M.getD j 0) == decide (i = j)
theorem rs_all : ((List.range 64).all fun s => sqb_ (nr_ (mb_ s 6).length) (rs_ (mb_ s 6)) && (decide ((rs_ (mb_ s 6)).head? = some (mb_ s 6)) && ((rs_ (mb_ s 6)).all (fun l => decide (l.length = (mb_ s 6).length) && l.all (fun x => s.testBit x)) && nd_ (mb_ s 6)))) = true := by decide +kernel
theorem mb_all : ((List.range 7).all fun n => (List.range (2 ^ n)).all fun s => decide (mb_ s n = mb_ s 6)) = true := by decide +kernel
theorem mb_eq {n s : Nat} (hn : n ≤ 6) (hs : s < 2 ^ n) : mb_ s n = mb_ s 6 := by
  have h := mb_all
  rw [List.all_eq_true] at h
  have h := h n (List.mem_range.mpr (by omega))
  rw [List.all_eq_true] at h
  exact of_decide_eq_true (h s (List.mem_range.mpr hs))
theorem rs_ok {n s : Nat} (hn : n ≤ 6) (hs : s < 2 ^ n) : ∃ l, rs_ (mb_ s n) = mb_ s n :: l ∧ sq_ (nr_ (mb_ s n).length) (mb_ s n :: l) ∧ (∀ r, r ∈ mb_ s n :: l → r.length = (mb_ s n).length ∧ ∀ k, k < r.length → s.testBit (r.getD k 0) = true ∧ r.getD k 0 < n) ∧ ∀ i j, i < (mb_ s n).length → j < (mb_ s n).length → (mb_ s n).getD i 0 = (mb_ s n).getD j 0 → i = j := by
  rw [mb_eq hn hs]
  have h64 : s < 64 := Nat.lt_of_lt_of_le hs (Nat.pow_le_pow_right (by decide) hn)
  have h := rs_all
  rw [List.all_eq_true] at h
  have h := h s (List.mem_range.mpr h64)
  rw [Bool.and_eq_true, Bool.and_eq_true, Bool.and_eq_true, decide_eq_true_eq, List.all_eq_true] at h
  obtain ⟨g1, g2, g3, g4⟩ := h
  cases e : rs_ (mb_ s 6) with
  | nil => rw [e] at g2; cases g2
  | cons S l =>
    rw [e] at g1 g2 g3
    have : S = mb_ s 6 := Option.some.inj g2
    subst this
    refine ⟨l, rfl, sqb_t _ g1, fun r hr => ?_, fun i j hi hj hij => ?_⟩
    · have q := g3 r hr
      rw [Bool.and_eq_true, decide_eq_true_eq, List.all_eq_true] at q
      refine ⟨q.1, fun k hk => ?_⟩
      have q2 := q.2 (r.getD k 0) (by rw [List.getD_eq_getElem?_getD, List.getElem?_eq_getElem hk]; exact List.getElem_mem hk)
      refine ⟨q2, ?_⟩
      rcases Nat.lt_or_ge (r.getD k 0) n with q3 | q3
      · exact q3
      · rw [Nat.testBit_lt_two_pow (Nat.lt_of_lt_of_le hs (Nat.pow_le_pow_right (by decide) q3))] at q2
        cases q2
    · unfold nd_ at g4
      rw [List.all_eq_true] at g4
      have q := g4 i (List.mem_range.mpr hi)
      rw [List.all_eq_true] at q
      have q := q j (List.mem_range.mpr hj)
      rw [decide_eq_true hij] at q
      exact of_decide_eq_true (by simpa using q)

theorem m_doneByN {d : Nat} (hd : 6 ≤ d) {σ : am_S} {T : sp_T} (hT : TM_ T σ) (hV : TV_ T) {b : Int} {v w : sp_V} (hw : σ.1 163 = w) (hvw : ∀ j, j < 50 → v j = w j) (hW : VV_ T b w) {l : List Nat} (hl : WL_ l σ) {n : Nat} (hn : l.length = n) (hlp : ∀ k, k < n → l.getD k 0 < nP_ T) {Q : Option am_V → am_S → Prop} (hQ : ∀ σ', fr_ [164] σ σ' → Q (some (am_I ((db_ T v l : Nat) : Int))) σ') : am_Ev d 244 [am_R 135, am_I ((n : Nat) : Int)] σ Q := by
  subst hn
  exact m_doneBy hd hT hV hw hvw hW hl hlp hQ
theorem m_nextRowN {d : Nat} (hd : 2 ≤ d) {σ : am_S} {l : List Nat} (hl : WL_ l σ) {n : Nat} (hn : l.length = n) {Q : Option am_V → am_S → Prop} (hQ : (nr_ n l = none → Q (some (am_I 0)) σ) ∧ ∀ l', nr_ n l = some l' → ∀ σ', fr_ [168] σ σ' → WL_ l' σ' → Q (some (am_I 1)) σ') : am_Ev d 239 [am_R 135, am_I ((n : Nat) : Int)] σ Q := by
  subst hn
  exact m_nextRow hd hl hQ

theorem l_open_cp {d : Nat} {σ : am_S} {n : Nat} (hn6 : n ≤ 6) {a x y : Int} {Q : Option am_V → am_S → Prop} (hQ : aW d 0 k_X9_opening Q 99 [some (am_R 135), some (am_I a), some (am_I ((n : Nat) : Int)), some (am_I x), some (am_I 1), some (am_I y), some (am_I ((n : Nat) : Int))] [] (am_sI σ 167 (cp_ (σ.1 168) (σ.1 167) n))) : ∀ (m k : Nat), k + m = n → aW d 0 k_X9_opening Q 73 [some (am_R 135), some (am_I a), some (am_I ((n : Nat) : Int)), some (am_I x), some (am_I 1), some (am_I y), some (am_I ((k : Nat) : Int))] [] (am_sI σ 167 (cp_ (σ.1 168) (σ.1 167) k)) := by
  intro m
  induction m with
  | zero =>
    intro k hk
    obtain rfl : k = n := by omega
    refine ax_load (q := 75) rfl rfl rfl rfl rfl ?_
    refine ax_load (q := 76) rfl rfl rfl rfl rfl ?_
    refine ax_icmp_ge (q := 79) (x := 99) rfl rfl (fun h76 => ?_) (fun h => absurd h (by omega))
    exact hQ
  | succ m ih =>
    intro k hk
    refine ax_load (q := 75) rfl rfl rfl rfl rfl ?_
    refine ax_load (q := 76) rfl rfl rfl rfl rfl ?_
    refine ax_icmp_ge (q := 79) (x := 99) rfl rfl (fun h => absurd h (by omega)) (fun h76 => ?_)
    refine ax_load (q := 80) rfl rfl rfl rfl rfl ?_
    refine ax_getf (q := 83) (v := am_R 167) rfl rfl (rfl) ?_
    refine ax_load (q := 85) rfl rfl rfl rfl rfl ?_
    refine ax_load (q := 86) rfl rfl rfl rfl rfl ?_
    refine ax_getf (q := 89) (v := am_R 168) rfl rfl (rfl) ?_
    refine ax_load (q := 91) rfl rfl rfl rfl rfl ?_
    refine bx_iald (q := 92) (k := k) (z := σ.1 168 k) rfl rfl (rfl) (by omega) (by omega) (congrFun (sI_ne (by decide)) _) ?_
    refine bx_iast (q := 93) (k := k) rfl rfl (rfl) (by omega) (by omega) ?_
    refine ax_iinc (q := 96) (z' := ((k + 1 : Nat) : Int)) (L' := [some (am_R 135), some (am_I a), some (am_I ((n : Nat) : Int)), some (am_I x), some (am_I 1), some (am_I y), some (am_I ((k + 1 : Nat) : Int))]) rfl rfl rfl rfl (am_we (by omega) (by omega) (by omega)) rfl ?_
    refine ax_goto (x := 73) rfl ?_
    have g := ih (k + 1) (by omega)
    rw [← cp_step] at g
    rw [sI_sI, sI_at]
    exact g

theorem l_opening {d : Nat} (hd : 6 ≤ d) {T : sp_T} (hV : TV_ T) {b : Int} {v w : sp_V} (hvw : ∀ j, j < 50 → v j = w j) (hW : VV_ T b w) {n : Nat} {a : Int} {Q : Option am_V → am_S → Prop} : ∀ (ls : List (List Nat)) (l : List Nat) (B : Int × List Nat) (σ : am_S) (o5 o6 : Option am_V), TM_ T σ → σ.1 163 = w → WL_ l σ → sq_ (nr_ n) (l :: ls) → (∀ r, r ∈ l :: ls → r.length = n ∧ ∀ k, k < n → r.getD k 0 < nP_ T) → (B.1 < 0 ∨ ∀ k, k < n → σ.1 167 k = (B.2.getD k 0 : Int)) → (∀ σ' o5 o6, fr_ [164, 167, 168] σ σ' → (∀ k, k < n → σ'.1 167 k = ((be_ (fun r => ((db_ T v r : Nat) : Int)) (l :: ls) B).2.getD k 0 : Int)) → aW d 0 k_X9_opening Q 109 [some (am_R 135), some (am_I a), some (am_I ((n : Nat) : Int)), some (am_I (be_ (fun r => ((db_ T v r : Nat) : Int)) (l :: ls) B).1), some (am_I 0), o5, o6] [] σ') → aW d 0 k_X9_opening Q 49 [some (am_R 135), some (am_I a), some (am_I ((n : Nat) : Int)), some (am_I B.1), some (am_I 1), o5, o6] [] σ := by
  intro ls
  induction ls with
  | nil =>
    intro l B σ o5 o6 hT hw hS hsq hok hB hQ
    have hok0 := hok l (List.mem_cons_self ..)
    refine ax_load (q := 51) rfl rfl rfl rfl rfl ?_
    refine ax_if_eq (q := 54) (x := 109) rfl rfl (fun h => absurd h (by omega)) (fun h51 => ?_)
    refine ax_load (q := 55) rfl rfl rfl rfl rfl ?_
    refine ax_load (q := 56) rfl rfl rfl rfl rfl ?_
    refine ax_callv (q := 59) rfl rfl rfl rfl rfl rfl ?_
    refine m_doneByN (by omega) hT hV hw hvw hW hS hok0.1 hok0.2 (fun σ1 hf1 => ?_)
    have hT1 : TM_ T σ1 := hT.f5 hf1 (by decide) (by decide)
    have hS1 : WL_ l σ1 := ⟨hS.1, fun k hk => by rw [hf1.1 168 (by decide)]; exact hS.2 k hk⟩
    have hn6 : n ≤ 6 := by have := hS.1; omega
    refine ax_store (q := 61) (L' := [some (am_R 135), some (am_I a), some (am_I ((n : Nat) : Int)), some (am_I B.1), some (am_I 1), some (am_I ((db_ T v l : Nat) : Int)), o6]) rfl rfl rfl rfl rfl rfl ?_
    refine ax_load (q := 63) rfl rfl rfl rfl rfl ?_
    refine ax_load (q := 64) rfl rfl rfl rfl rfl ?_
    refine ax_icmp_le (q := 67) (x := 99) rfl rfl (fun h64 => ?_) (fun h64 => ?_)
    · refine ax_load (q := 100) rfl rfl rfl rfl rfl ?_
      refine ax_load (q := 101) rfl rfl rfl rfl rfl ?_
      refine ax_callv (q := 104) rfl rfl rfl rfl rfl rfl ?_
      refine m_nextRowN (by omega) hS1 hok0.1 ⟨fun _ => ?_, fun S' hS' => absurd ((show nr_ n l = none from hsq).symm.trans hS') (by simp)⟩
      refine ax_store (q := 106) (L' := [some (am_R 135), some (am_I a), some (am_I ((n : Nat) : Int)), some (am_I B.1), some (am_I 0), some (am_I ((db_ T v l : Nat) : Int)), o6]) rfl rfl rfl rfl rfl rfl ?_
      refine ax_goto (x := 49) rfl ?_
      refine ax_load (q := 51) rfl rfl rfl rfl rfl ?_
      refine ax_if_eq (q := 54) (x := 109) rfl rfl (fun h51 => ?_) (fun h => absurd h (by omega))
      have e : (if B.1 < (fun r => ((db_ T v r : Nat) : Int)) l then ((fun r => ((db_ T v r : Nat) : Int)) l, l) else B) = B := by first | exact if_pos (by show _ < ((db_ T v l : Nat) : Int); omega) | exact if_neg (by show ¬ _ < ((db_ T v l : Nat) : Int); omega)
      have g := hQ σ1 (some (am_I ((db_ T v l : Nat) : Int))) (o6) (fr_sub hf1 (by decide)) (by show ∀ k, k < n → _ = (((if B.1 < (fun r => ((db_ T v r : Nat) : Int)) l then ((fun r => ((db_ T v r : Nat) : Int)) l, l) else B).2.getD k 0 : Nat) : Int); rw [e]; exact fun k hk => by rw [hf1.1 167 (by decide)]; rcases hB with hB | hB; exact absurd hB (by omega); exact hB k hk)
      rw [show be_ (fun r => ((db_ T v r : Nat) : Int)) [l] B = (if B.1 < (fun r => ((db_ T v r : Nat) : Int)) l then ((fun r => ((db_ T v r : Nat) : Int)) l, l) else B) from rfl, e] at g
      exact g
    · refine ax_load (q := 69) rfl rfl rfl rfl rfl ?_
      refine ax_store (q := 70) (L' := [some (am_R 135), some (am_I a), some (am_I ((n : Nat) : Int)), some (am_I ((db_ T v l : Nat) : Int)), some (am_I 1), some (am_I ((db_ T v l : Nat) : Int)), o6]) rfl rfl rfl rfl rfl rfl ?_
      refine ax_const (q := 71) (v := am_I 0) rfl rfl rfl ?_
      refine ax_store (q := 73) (L' := [some (am_R 135), some (am_I a), some (am_I ((n : Nat) : Int)), some (am_I ((db_ T v l : Nat) : Int)), some (am_I 1), some (am_I ((db_ T v l : Nat) : Int)), some (am_I 0)]) rfl rfl rfl rfl rfl rfl ?_
      have g := l_open_cp (σ := σ1) (d := d) hn6 (a := a) (x := ((db_ T v l : Nat) : Int)) (y := ((db_ T v l : Nat) : Int)) (Q := Q) ?_ n 0 (by omega)
      · rw [cp_0, sI_id] at g
        exact g
      have hT2 : TM_ T (am_sI σ1 167 (cp_ (σ1.1 168) (σ1.1 167) n)) := hT1.sI (by decide)
      have hS2 : WL_ l (am_sI σ1 167 (cp_ (σ1.1 168) (σ1.1 167) n)) := ⟨hS1.1, fun k hk => by rw [sI_ne (by decide)]; exact hS1.2 k hk⟩
      have hl2 : ∀ k, k < n → (am_sI σ1 167 (cp_ (σ1.1 168) (σ1.1 167) n)).1 167 k = (l.getD k 0 : Int) := fun k hk => by rw [sI_at, cp_at hk]; exact hS1.2 k (by omega)
      refine ax_load (q := 100) rfl rfl rfl rfl rfl ?_
      refine ax_load (q := 101) rfl rfl rfl rfl rfl ?_
      refine ax_callv (q := 104) rfl rfl rfl rfl rfl rfl ?_
      refine m_nextRowN (by omega) hS2 hok0.1 ⟨fun _ => ?_, fun S' hS' => absurd ((show nr_ n l = none from hsq).symm.trans hS') (by simp)⟩
      refine ax_store (q := 106) (L' := [some (am_R 135), some (am_I a), some (am_I ((n : Nat) : Int)), some (am_I ((db_ T v l : Nat) : Int)), some (am_I 0), some (am_I ((db_ T v l : Nat) : Int)), some (am_I ((n : Nat) : Int))]) rfl rfl rfl rfl rfl rfl ?_
      refine ax_goto (x := 49) rfl ?_
      refine ax_load (q := 51) rfl rfl rfl rfl rfl ?_
      refine ax_if_eq (q := 54) (x := 109) rfl rfl (fun h51 => ?_) (fun h => absurd h (by omega))
      have e : (if B.1 < (fun r => ((db_ T v r : Nat) : Int)) l then ((fun r => ((db_ T v r : Nat) : Int)) l, l) else B) = ((fun r => ((db_ T v r : Nat) : Int)) l, l) := by first | exact if_pos (by show _ < ((db_ T v l : Nat) : Int); omega) | exact if_neg (by show ¬ _ < ((db_ T v l : Nat) : Int); omega)
      have g := hQ (am_sI σ1 167 (cp_ (σ1.1 168) (σ1.1 167) n)) (some (am_I ((db_ T v l : Nat) : Int))) (some (am_I ((n : Nat) : Int))) (fr_sI (fr_sub hf1 (by decide)) (by decide)) (by show ∀ k, k < n → _ = (((if B.1 < (fun r => ((db_ T v r : Nat) : Int)) l then ((fun r => ((db_ T v r : Nat) : Int)) l, l) else B).2.getD k 0 : Nat) : Int); rw [e]; exact fun k hk => hl2 k hk)
      rw [show be_ (fun r => ((db_ T v r : Nat) : Int)) [l] B = (if B.1 < (fun r => ((db_ T v r : Nat) : Int)) l then ((fun r => ((db_ T v r : Nat) : Int)) l, l) else B) from rfl, e] at g
      exact g
  | cons l2 ls ih =>
    intro l B σ o5 o6 hT hw hS hsq hok hB hQ
    have hok0 := hok l (List.mem_cons_self ..)
    refine ax_load (q := 51) rfl rfl rfl rfl rfl ?_
    refine ax_if_eq (q := 54) (x := 109) rfl rfl (fun h => absurd h (by omega)) (fun h51 => ?_)
    refine ax_load (q := 55) rfl rfl rfl rfl rfl ?_
    refine ax_load (q := 56) rfl rfl rfl rfl rfl ?_
    refine ax_callv (q := 59) rfl rfl rfl rfl rfl rfl ?_
    refine m_doneByN (by omega) hT hV hw hvw hW hS hok0.1 hok0.2 (fun σ1 hf1 => ?_)
    have hT1 : TM_ T σ1 := hT.f5 hf1 (by decide) (by decide)
    have hS1 : WL_ l σ1 := ⟨hS.1, fun k hk => by rw [hf1.1 168 (by decide)]; exact hS.2 k hk⟩
    have hn6 : n ≤ 6 := by have := hS.1; omega
    refine ax_store (q := 61) (L' := [some (am_R 135), some (am_I a), some (am_I ((n : Nat) : Int)), some (am_I B.1), some (am_I 1), some (am_I ((db_ T v l : Nat) : Int)), o6]) rfl rfl rfl rfl rfl rfl ?_
    refine ax_load (q := 63) rfl rfl rfl rfl rfl ?_
    refine ax_load (q := 64) rfl rfl rfl rfl rfl ?_
    refine ax_icmp_le (q := 67) (x := 99) rfl rfl (fun h64 => ?_) (fun h64 => ?_)
    · refine ax_load (q := 100) rfl rfl rfl rfl rfl ?_
      refine ax_load (q := 101) rfl rfl rfl rfl rfl ?_
      refine ax_callv (q := 104) rfl rfl rfl rfl rfl rfl ?_
      refine m_nextRowN (by omega) hS1 hok0.1 ⟨fun hno => absurd (hno.symm.trans hsq.1) (by simp), fun S' hS' σ3 hf3 hx3 => ?_⟩
      obtain rfl : l2 = S' := Option.some.inj (hsq.1.symm.trans hS')
      refine ax_store (q := 106) (L' := [some (am_R 135), some (am_I a), some (am_I ((n : Nat) : Int)), some (am_I B.1), some (am_I 1), some (am_I ((db_ T v l : Nat) : Int)), o6]) rfl rfl rfl rfl rfl rfl ?_
      refine ax_goto (x := 49) rfl ?_
      have e : (if B.1 < (fun r => ((db_ T v r : Nat) : Int)) l then ((fun r => ((db_ T v r : Nat) : Int)) l, l) else B) = B := by first | exact if_pos (by show _ < ((db_ T v l : Nat) : Int); omega) | exact if_neg (by show ¬ _ < ((db_ T v l : Nat) : Int); omega)
      have g := fun hb => ih l2 (if B.1 < (fun r => ((db_ T v r : Nat) : Int)) l then ((fun r => ((db_ T v r : Nat) : Int)) l, l) else B) σ3 (some (am_I ((db_ T v l : Nat) : Int))) (o6) (hT1.f5 hf3 (by decide) (by decide)) ((hf3.1 163 (by decide)).trans ((hf1.1 163 (by decide)).trans hw)) hx3 hsq.2 (fun S' h' => hok S' (List.mem_cons_of_mem _ h')) hb (fun σ' o5 o6 hf' hl' => hQ σ' o5 o6 (fr_tr (fr_tr (fr_sub hf1 (by decide)) hf3 (by decide)) hf' (fun a h => h)) hl')
      rw [e] at g
      exact g (Or.inr (fun k hk => by rw [hf3.1 167 (by decide)]; rw [hf1.1 167 (by decide)]; rcases hB with hB | hB; exact absurd hB (by omega); exact hB k hk))
    · refine ax_load (q := 69) rfl rfl rfl rfl rfl ?_
      refine ax_store (q := 70) (L' := [some (am_R 135), some (am_I a), some (am_I ((n : Nat) : Int)), some (am_I ((db_ T v l : Nat) : Int)), some (am_I 1), some (am_I ((db_ T v l : Nat) : Int)), o6]) rfl rfl rfl rfl rfl rfl ?_
      refine ax_const (q := 71) (v := am_I 0) rfl rfl rfl ?_
      refine ax_store (q := 73) (L' := [some (am_R 135), some (am_I a), some (am_I ((n : Nat) : Int)), some (am_I ((db_ T v l : Nat) : Int)), some (am_I 1), some (am_I ((db_ T v l : Nat) : Int)), some (am_I 0)]) rfl rfl rfl rfl rfl rfl ?_
      have g := l_open_cp (σ := σ1) (d := d) hn6 (a := a) (x := ((db_ T v l : Nat) : Int)) (y := ((db_ T v l : Nat) : Int)) (Q := Q) ?_ n 0 (by omega)
      · rw [cp_0, sI_id] at g
        exact g
      have hT2 : TM_ T (am_sI σ1 167 (cp_ (σ1.1 168) (σ1.1 167) n)) := hT1.sI (by decide)
      have hS2 : WL_ l (am_sI σ1 167 (cp_ (σ1.1 168) (σ1.1 167) n)) := ⟨hS1.1, fun k hk => by rw [sI_ne (by decide)]; exact hS1.2 k hk⟩
      have hl2 : ∀ k, k < n → (am_sI σ1 167 (cp_ (σ1.1 168) (σ1.1 167) n)).1 167 k = (l.getD k 0 : Int) := fun k hk => by rw [sI_at, cp_at hk]; exact hS1.2 k (by omega)
      refine ax_load (q := 100) rfl rfl rfl rfl rfl ?_
      refine ax_load (q := 101) rfl rfl rfl rfl rfl ?_
      refine ax_callv (q := 104) rfl rfl rfl rfl rfl rfl ?_
      refine m_nextRowN (by omega) hS2 hok0.1 ⟨fun hno => absurd (hno.symm.trans hsq.1) (by simp), fun S' hS' σ3 hf3 hx3 => ?_⟩
      obtain rfl : l2 = S' := Option.some.inj (hsq.1.symm.trans hS')
      refine ax_store (q := 106) (L' := [some (am_R 135), some (am_I a), some (am_I ((n : Nat) : Int)), some (am_I ((db_ T v l : Nat) : Int)), some (am_I 1), some (am_I ((db_ T v l : Nat) : Int)), some (am_I ((n : Nat) : Int))]) rfl rfl rfl rfl rfl rfl ?_
      refine ax_goto (x := 49) rfl ?_
      have e : (if B.1 < (fun r => ((db_ T v r : Nat) : Int)) l then ((fun r => ((db_ T v r : Nat) : Int)) l, l) else B) = ((fun r => ((db_ T v r : Nat) : Int)) l, l) := by first | exact if_pos (by show _ < ((db_ T v l : Nat) : Int); omega) | exact if_neg (by show ¬ _ < ((db_ T v l : Nat) : Int); omega)
      have g := fun hb => ih l2 (if B.1 < (fun r => ((db_ T v r : Nat) : Int)) l then ((fun r => ((db_ T v r : Nat) : Int)) l, l) else B) σ3 (some (am_I ((db_ T v l : Nat) : Int))) (some (am_I ((n : Nat) : Int))) (hT2.f5 hf3 (by decide) (by decide)) ((hf3.1 163 (by decide)).trans ((sI_ne (by decide)).trans ((hf1.1 163 (by decide)).trans hw))) hx3 hsq.2 (fun S' h' => hok S' (List.mem_cons_of_mem _ h')) hb (fun σ' o5 o6 hf' hl' => hQ σ' o5 o6 (fr_tr (fr_tr (fr_sI (fr_sub hf1 (by decide)) (by decide)) hf3 (by decide)) hf' (fun a h => h)) hl')
      rw [e] at g
      exact g (Or.inr (fun k hk => by rw [hf3.1 167 (by decide)]; exact hl2 k hk))

def of_ (T : sp_T) (v : sp_V) (s : Nat) : Int × List Nat := be_ (fun r => ((db_ T v r : Nat) : Int)) (rs_ (mb_ s (nP_ T))) (-1, [])
def oc_ (T : sp_T) (v : sp_V) (a : Int) : Bool := decide (0 ≤ a ∧ a < ((2 ^ nP_ T : Nat) : Int)) && decide (a.toNat ^^^ (a.toNat &&& bi_ (nP_ T) (sh_ v)) = 0)

theorem m_opening {d : Nat} (hd : 8 ≤ d) {σ : am_S} {T : sp_T} (hT : TM_ T σ) (hV : TV_ T) {b : Int} {v w : sp_V} (hw : σ.1 163 = w) (hv : v = cp_ w (σ.1 164) 50) (hW : VV_ T b w) {a : Int} {Q : Option am_V → am_S → Prop} (hN : oc_ T v a = false → ∀ σ', fq_ [164] [68] σ σ' → σ'.1 135 68 = 0 → Q (some (am_I (-1))) σ') (hY : oc_ T v a = true → ∀ σ', fq_ [164, 167, 168] [68] σ σ' → σ'.1 135 68 = ((mb_ a.toNat (nP_ T)).length : Int) → (∀ k, k < (mb_ a.toNat (nP_ T)).length → σ'.1 167 k = ((of_ T v a.toNat).2.getD k 0 : Int)) → Q (some (am_I (of_ T v a.toNat).1)) σ') : am_Ev d 245 [am_R 135, am_I a] σ Q := by
  obtain ⟨d, rfl⟩ : ∃ e, d = e + 1 := ⟨d - 1, by omega⟩
  have h6 := hV.nP
  obtain ⟨c2, hc2⟩ : ∃ c, c = 2 ^ nP_ T := ⟨_, rfl⟩
  have hc64 : c2 ≤ 64 := by rw [hc2]; show 2 ^ nP_ T ≤ 2 ^ 6; exact Nat.pow_le_pow_right (by decide) (by omega)
  have hvw : ∀ j, j < 50 → v j = w j := fun j hj => by rw [hv]; exact cp_at hj
  obtain ⟨σ0, hσ0⟩ : ∃ s, s = am_sI σ 135 (am_up (σ.1 135) 68 0) := ⟨_, rfl⟩
  have hf0 : fq_ [164] [68] σ σ0 := by rw [hσ0]; exact fq_s5 (fq_rf _ _ _) (by decide)
  have h164 : σ0.1 164 = σ.1 164 := by rw [hσ0, sI_ne (by decide)]
  have h68 : σ0.1 135 68 = 0 := by rw [hσ0, sI_at, am_up_same]
  have hT0 : TM_ T σ0 := hT.fq hf0 (by decide) (by decide)
  have hw0 : σ0.1 163 = w := by rw [hσ0, sI_ne (by decide)]; exact hw
  have hTv : TM_ T (am_sI σ0 164 v) := hT0.sI (by decide)
  have hwv : (am_sI σ0 164 v).1 163 = w := (sI_ne (by decide)).trans hw0
  have hfv : fq_ [164] [68] σ (am_sI σ0 164 v) := fq_sI hf0 (by decide) (by decide)
  have h68v : (am_sI σ0 164 v).1 135 68 = 0 := by rw [sI_ne (by decide)]; exact h68
  refine ev_in (m := 245) (c := k_X9_opening) (L := [some (am_R 135), some (am_I a), none, none, none, none, none]) rfl rfl rfl rfl rfl rfl ?_
  refine ax_load (q := 1) rfl rfl rfl rfl rfl ?_
  refine ax_const (q := 2) (v := am_I 0) rfl rfl rfl ?_
  refine ax_putf (q := 5) rfl rfl rfl ?_
  refine ax_load (q := 6) rfl rfl rfl rfl rfl ?_
  refine ax_callv (q := 9) rfl rfl rfl rfl rfl rfl ?_
  rw [← hσ0]
  refine m_load (by omega) ?_
  rw [hw0, h164, ← hv]
  refine ax_load (q := 10) rfl rfl rfl rfl rfl ?_
  refine ax_const (q := 11) (v := am_I 0) rfl rfl rfl ?_
  refine ax_const (q := 12) (v := am_I 1) rfl rfl rfl ?_
  refine ax_load (q := 13) rfl rfl rfl rfl rfl ?_
  refine ax_getf (q := 16) (v := am_I ((nP_ T : Nat) : Int)) rfl rfl (am_fg rfl (hTv.s53.trans hV.nP.1)) ?_
  refine ax_ishl (q := 17) (z := ((c2 : Nat) : Int)) rfl rfl ((am_shl1 _ (by omega)).trans (by rw [← hc2])) ?_
  refine ax_const (q := 18) (v := am_I 1) rfl rfl rfl ?_
  refine ax_isub (q := 19) (z := ((c2 : Nat) : Int) - 1) rfl rfl (am_we (by omega) (by omega) (by omega)) ?_
  refine ax_calls (q := 22) rfl rfl rfl rfl rfl ?_
  refine m_isIn (by omega) ?_
  refine ax_if_eq (q := 25) (x := 36) rfl rfl (fun h22 => ?_) (fun h22 => ?_)
  · have hb22 := it_0 h22
    refine ax_const (q := 37) (v := am_I (-1)) rfl rfl rfl ?_
    refine ax_ret (r := some (am_I (-1))) rfl rfl ?_
    exact hN (by unfold oc_; first | (rw [← hc2, show decide (0 ≤ a ∧ a < (c2 : Int)) = false by rw [decide_eq_false_iff_not] at hb22 ⊢; omega]; rfl) | (rw [Int.toNat_natCast, decide_eq_false (show ¬ s ^^^ (s &&& bi_ (nP_ T) (sh_ v)) = 0 by omega), Bool.and_false])) _ hfv h68v
  · have hb22 := it_n0 h22
    obtain ⟨s, rfl, hs⟩ : ∃ s : Nat, a = (s : Int) ∧ s < c2 := by rw [decide_eq_true_eq] at hb22; exact ⟨a.toNat, by omega, by omega⟩
    refine ax_load (q := 26) rfl rfl rfl rfl rfl ?_
    refine ax_load (q := 27) rfl rfl rfl rfl rfl ?_
    refine ax_callv (q := 30) rfl rfl rfl rfl rfl rfl ?_
    refine m_shutSet (by omega) hTv hV (sI_at _ _ _) ?_
    have hsb := bi_lt (sh_ v) (nP_ T)
    refine ax_const (q := 31) (v := am_I (-1)) rfl rfl rfl ?_
    refine ax_ixor (q := 32) (z := am_xor ((bi_ (nP_ T) (sh_ v) : Nat) : Int) (-1)) rfl rfl (rfl) ?_
    refine ax_iand (q := 33) (z := ((s ^^^ (s &&& bi_ (nP_ T) (sh_ v)) : Nat) : Int)) rfl rfl (am_andnot (by omega) (by rw [← hc2] at hsb; omega)) ?_
    refine ax_if_eq (q := 36) (x := 38) rfl rfl (fun h33 => ?_) (fun h33 => ?_)
    · refine ax_load (q := 39) rfl rfl rfl rfl rfl ?_
      refine ax_load (q := 40) rfl rfl rfl rfl rfl ?_
      refine ax_callv (q := 43) rfl rfl rfl rfl rfl rfl ?_
      refine m_layFirst (by omega) hTv hV (by omega) (fun σl hfl hwl => ?_)
      refine ax_store (q := 44) (L' := [some (am_R 135), some (am_I ((s : Nat) : Int)), some (am_I (((mb_ s (nP_ T)).length : Nat) : Int)), none, none, none, none]) rfl rfl rfl rfl rfl rfl ?_
      refine ax_const (q := 45) (v := am_I (-1)) rfl rfl rfl ?_
      refine ax_store (q := 46) (L' := [some (am_R 135), some (am_I ((s : Nat) : Int)), some (am_I (((mb_ s (nP_ T)).length : Nat) : Int)), some (am_I (-1)), none, none, none]) rfl rfl rfl rfl rfl rfl ?_
      refine ax_const (q := 47) (v := am_I 1) rfl rfl rfl ?_
      refine ax_store (q := 49) (L' := [some (am_R 135), some (am_I ((s : Nat) : Int)), some (am_I (((mb_ s (nP_ T)).length : Nat) : Int)), some (am_I (-1)), some (am_I 1), none, none]) rfl rfl rfl rfl rfl rfl ?_
      obtain ⟨ls, he, hsq, hok, hnd⟩ := rs_ok (n := nP_ T) (s := s) (by omega) (by omega)
      have hoc : oc_ T v (s : Int) = true := by unfold oc_; rw [← hc2, Int.toNat_natCast, decide_eq_true (show (0 : Int) ≤ (s : Int) ∧ (s : Int) < (c2 : Int) by omega), decide_eq_true (show s ^^^ (s &&& bi_ (nP_ T) (sh_ v)) = 0 by omega)]; rfl
      refine l_opening (by omega) hV hvw hW (n := (mb_ s (nP_ T)).length) ls (mb_ s (nP_ T)) (-1, []) σl none none (hTv.f5 hfl (by decide) (by decide)) ((hfl.1 163 (by decide)).trans hwv) hwl hsq (fun r hr => ⟨(hok r hr).1, fun k hk => ((hok r hr).2 k (by rw [(hok r hr).1]; exact hk)).2⟩) (Or.inl (by decide)) (fun σ1 o5 o6 hf1 hl1 => ?_)
      refine ax_load (q := 110) rfl rfl rfl rfl rfl ?_
      refine ax_load (q := 111) rfl rfl rfl rfl rfl ?_
      refine ax_putf (q := 114) rfl rfl rfl ?_
      refine ax_load (q := 115) rfl rfl rfl rfl rfl ?_
      refine ax_ret (r := some (am_I ((be_ (fun r => ((db_ T v r : Nat) : Int)) (mb_ s (nP_ T) :: ls) (-1, [])).1))) rfl rfl ?_
      have hfz : fq_ [164, 167, 168] [68] σ σ1 := fq_tr (fq_tr (fq_tr (fq_rf _ _ _) hfv (by decide) (by decide)) (fq_fr hfl (by decide) (fun _ q => q) : fq_ [168] [68] _ σl) (by decide) (by decide)) (fq_fr hf1 (by decide) (fun _ q => q) : fq_ [164, 167, 168] [68] _ σ1) (by decide) (by decide)
      have g := hY hoc (am_sI σ1 135 (am_up (σ1.1 135) 68 (((mb_ s (nP_ T)).length : Nat) : Int))) (fq_s5 hfz (by decide)) (by rw [sI_at, am_up_same, Int.toNat_natCast]) (fun k hk => by rw [sI_ne (by decide), Int.toNat_natCast]; unfold of_; rw [he]; exact hl1 k (by rw [Int.toNat_natCast] at hk; exact hk))
      rw [Int.toNat_natCast, show (of_ T v s).1 = (be_ (fun r => ((db_ T v r : Nat) : Int)) (mb_ s (nP_ T) :: ls) (-1, [])).1 by unfold of_; rw [he]] at g
      exact g
    · refine ax_const (q := 37) (v := am_I (-1)) rfl rfl rfl ?_
      refine ax_ret (r := some (am_I (-1))) rfl rfl ?_
      exact hN (by unfold oc_; first | (rw [← hc2, show decide (0 ≤ a ∧ a < (c2 : Int)) = false by rw [decide_eq_false_iff_not] at hb22 ⊢; omega]; rfl) | (rw [Int.toNat_natCast, decide_eq_false (show ¬ s ^^^ (s &&& bi_ (nP_ T) (sh_ v)) = 0 by omega), Bool.and_false])) _ hfv h68v

def ly_ (M l : List Nat) (y : Nat → Int) : Nat → Nat → Int
  | 0 => y
  | k + 1 => am_up (ly_ M l y k) (M.getD k 0) (l.getD k 0 : Int)
theorem ly_out {M l : List Nat} {y : Nat → Int} {p : Nat} : ∀ n, (∀ k, k < n → M.getD k 0 ≠ p) → ly_ M l y n p = y p
  | 0, _ => rfl
  | n + 1, h => by
    show am_up (ly_ M l y n) (M.getD n 0) _ p = y p
    rw [am_up_ne (fun q => h n (by omega) q.symm)]
    exact ly_out n (fun k hk => h k (by omega))
theorem ly_in {M l : List Nat} {y : Nat → Int} : ∀ n, (∀ i j, i < n → j < n → M.getD i 0 = M.getD j 0 → i = j) → ∀ k, k < n → ly_ M l y n (M.getD k 0) = (l.getD k 0 : Int)
  | 0, _, k, hk => absurd hk (by omega)
  | n + 1, h, k, hk => by
    show am_up (ly_ M l y n) (M.getD n 0) _ (M.getD k 0) = _
    by_cases q : k = n
    · subst q; rw [am_up_same]
    · rw [am_up_ne (fun e => q (h k n hk (by omega) e))]
      exact ly_in n (fun i j hi hj => h i j (by omega) (by omega)) k (by omega)
theorem be_ge {α : Type} (f : α → Int) : ∀ (l : List α) (b : Int × α), b.1 ≤ (be_ f l b).1
  | [], _ => Int.le_refl _
  | x :: l, b => by
    refine Int.le_trans ?_ (be_ge f l _)
    split <;> (try dsimp only) <;> omega
theorem be_1 {α : Type} (f : α → Int) (x : α) (l : List α) (b : Int × α) : f x ≤ (be_ f (x :: l) b).1 := by
  refine Int.le_trans ?_ (be_ge f l _)
  split <;> (try dsimp only) <;> omega
theorem rg_self {T : sp_T} {b : Int} {v : sp_V} (hV : TV_ T) (hW : VV_ T b v) {M : List Nat} (hM : ∀ k, k < M.length → M.getD k 0 < nP_ T) : 0 ≤ rg_ T v M M := by
  unfold rg_
  split
  · next h =>
    have : ∀ n, an_ n (fun k => decide (ow_ T v M M k < ow_ T v M M k)) = false := by
      intro n
      induction n with
      | zero => rfl
      | succ n ih =>
        show (an_ n _ || decide (ow_ T v M M n < ow_ T v M M n)) = false
        rw [ih, decide_eq_false (by omega)]; rfl
    rw [this] at h
    cases h
  · exact (su_bd (b := 9) (by omega) _ (fun k hk => ho_bd hV hW (hM k hk))).1
theorem m_ringWorthN {d : Nat} (hd : 4 ≤ d) {σ : am_S} {T : sp_T} (hT : TM_ T σ) (hV : TV_ T) {b : Int} {v : sp_V} (ha : σ.1 164 = v) (hW : VV_ T b v) {M l : List Nat} (hM : RG_ M σ) (hl : WL_ l σ) {n : Nat} (hn : M.length = n) (hlen : l.length = n) (hMp : ∀ k, k < n → M.getD k 0 < nP_ T) (hlp : ∀ k, k < n → l.getD k 0 < nP_ T) {Q : Option am_V → am_S → Prop} (hQ : Q (some (am_I (rg_ T v M l))) σ) : am_Ev d 242 [am_R 135, am_I ((n : Nat) : Int)] σ Q := by
  subst hn
  exact m_ringWorth hd hT hV ha hW hM hl hlen hMp hlp hQ

theorem l_rings1 {d : Nat} {σ : am_S} {n : Nat} (hn6 : n ≤ 6) {Q : Option am_V → am_S → Prop} (hQ : aW d 0 k_X9_rings Q 38 [some (am_R 135), some (am_I ((n : Nat) : Int)), some (am_I ((n : Nat) : Int)), none, none, none] [] (am_sI σ 169 (cp_ (σ.1 168) (σ.1 169) n))) : ∀ (m k : Nat), k + m = n → aW d 0 k_X9_rings Q 15 [some (am_R 135), some (am_I ((n : Nat) : Int)), some (am_I ((k : Nat) : Int)), none, none, none] [] (am_sI σ 169 (cp_ (σ.1 168) (σ.1 169) k)) := by
  intro m
  induction m with
  | zero =>
    intro k hk
    obtain rfl : k = n := by omega
    refine ax_load (q := 16) rfl rfl rfl rfl rfl ?_
    refine ax_load (q := 17) rfl rfl rfl rfl rfl ?_
    refine ax_icmp_ge (q := 20) (x := 38) rfl rfl (fun h17 => ?_) (fun h => absurd h (by omega))
    exact hQ
  | succ m ih =>
    intro k hk
    refine ax_load (q := 16) rfl rfl rfl rfl rfl ?_
    refine ax_load (q := 17) rfl rfl rfl rfl rfl ?_
    refine ax_icmp_ge (q := 20) (x := 38) rfl rfl (fun h => absurd h (by omega)) (fun h17 => ?_)
    refine ax_load (q := 21) rfl rfl rfl rfl rfl ?_
    refine ax_getf (q := 24) (v := am_R 169) rfl rfl (rfl) ?_
    refine ax_load (q := 25) rfl rfl rfl rfl rfl ?_
    refine ax_load (q := 26) rfl rfl rfl rfl rfl ?_
    refine ax_getf (q := 29) (v := am_R 168) rfl rfl (rfl) ?_
    refine ax_load (q := 30) rfl rfl rfl rfl rfl ?_
    refine bx_iald (q := 31) (k := k) (z := σ.1 168 k) rfl rfl (rfl) (by omega) (by omega) (congrFun (sI_ne (by decide)) _) ?_
    refine bx_iast (q := 32) (k := k) rfl rfl (rfl) (by omega) (by omega) ?_
    refine ax_iinc (q := 35) (z' := ((k + 1 : Nat) : Int)) (L' := [some (am_R 135), some (am_I ((n : Nat) : Int)), some (am_I ((k + 1 : Nat) : Int)), none, none, none]) rfl rfl rfl rfl (am_we (by omega) (by omega) (by omega)) rfl ?_
    refine ax_goto (x := 15) rfl ?_
    have g := ih (k + 1) (by omega)
    rw [← cp_step] at g
    rw [sI_sI, sI_at]
    exact g

theorem l_rings2 {d : Nat} {σ : am_S} {T : sp_T} (hT : TM_ T σ) (hV : TV_ T) {n : Nat} {Q : Option am_V → am_S → Prop} (hQ : aW d 0 k_X9_rings Q 61 [some (am_R 135), some (am_I ((n : Nat) : Int)), some (am_I ((nP_ T : Nat) : Int)), none, none, none] [] (am_sI σ 167 (cp_ (fun _ => -1) (σ.1 167) (nP_ T)))) : ∀ (m k : Nat), k + m = nP_ T → aW d 0 k_X9_rings Q 40 [some (am_R 135), some (am_I ((n : Nat) : Int)), some (am_I ((k : Nat) : Int)), none, none, none] [] (am_sI σ 167 (cp_ (fun _ => -1) (σ.1 167) k)) := by
  have h6 := hV.nP
  intro m
  induction m with
  | zero =>
    intro k hk
    obtain rfl : k = nP_ T := by omega
    refine ax_load (q := 41) rfl rfl rfl rfl rfl ?_
    refine ax_load (q := 42) rfl rfl rfl rfl rfl ?_
    refine ax_getf (q := 45) (v := am_I ((nP_ T : Nat) : Int)) rfl rfl (am_fg rfl ((hT.sI (a := 167) (by decide)).s53.trans hV.nP.1)) ?_
    refine ax_icmp_ge (q := 48) (x := 61) rfl rfl (fun h45 => ?_) (fun h => absurd h (by omega))
    exact hQ
  | succ m ih =>
    intro k hk
    refine ax_load (q := 41) rfl rfl rfl rfl rfl ?_
    refine ax_load (q := 42) rfl rfl rfl rfl rfl ?_
    refine ax_getf (q := 45) (v := am_I ((nP_ T : Nat) : Int)) rfl rfl (am_fg rfl ((hT.sI (a := 167) (by decide)).s53.trans hV.nP.1)) ?_
    refine ax_icmp_ge (q := 48) (x := 61) rfl rfl (fun h => absurd h (by omega)) (fun h45 => ?_)
    refine ax_load (q := 49) rfl rfl rfl rfl rfl ?_
    refine ax_getf (q := 52) (v := am_R 167) rfl rfl (rfl) ?_
    refine ax_load (q := 53) rfl rfl rfl rfl rfl ?_
    refine ax_const (q := 54) (v := am_I (-1)) rfl rfl rfl ?_
    refine bx_iast (q := 55) (k := k) rfl rfl (rfl) (by omega) (by omega) ?_
    refine ax_iinc (q := 58) (z' := ((k + 1 : Nat) : Int)) (L' := [some (am_R 135), some (am_I ((n : Nat) : Int)), some (am_I ((k + 1 : Nat) : Int)), none, none, none]) rfl rfl rfl rfl (am_we (by omega) (by omega) (by omega)) rfl ?_
    refine ax_goto (x := 40) rfl ?_
    have g := ih (k + 1) (by omega)
    rw [← cp_step] at g
    rw [sI_sI, sI_at]
    exact g

theorem l_rings3 {d : Nat} {σ : am_S} {M l : List Nat} (hM : RG_ M σ) (hl : WL_ l σ) {n : Nat} (hn : M.length = n) (hlen : l.length = n) (hM6 : ∀ k, k < n → M.getD k 0 < 6) {x y : Int} {Q : Option am_V → am_S → Prop} (hQ : aW d 0 k_X9_rings Q 119 [some (am_R 135), some (am_I ((n : Nat) : Int)), some (am_I x), some (am_I 1), some (am_I y), some (am_I ((n : Nat) : Int))] [] (am_sI σ 167 (ly_ M l (σ.1 167) n))) : ∀ (m k : Nat), k + m = n → aW d 0 k_X9_rings Q 88 [some (am_R 135), some (am_I ((n : Nat) : Int)), some (am_I x), some (am_I 1), some (am_I y), some (am_I ((k : Nat) : Int))] [] (am_sI σ 167 (ly_ M l (σ.1 167) k)) := by
  have h66 := hl.1
  intro m
  induction m with
  | zero =>
    intro k hk
    obtain rfl : k = n := by omega
    refine ax_load (q := 90) rfl rfl rfl rfl rfl ?_
    refine ax_load (q := 91) rfl rfl rfl rfl rfl ?_
    refine ax_icmp_ge (q := 94) (x := 119) rfl rfl (fun h91 => ?_) (fun h => absurd h (by omega))
    exact hQ
  | succ m ih =>
    intro k hk
    have hm6 := hM6 k (by omega)
    refine ax_load (q := 90) rfl rfl rfl rfl rfl ?_
    refine ax_load (q := 91) rfl rfl rfl rfl rfl ?_
    refine ax_icmp_ge (q := 94) (x := 119) rfl rfl (fun h => absurd h (by omega)) (fun h91 => ?_)
    refine ax_load (q := 95) rfl rfl rfl rfl rfl ?_
    refine ax_getf (q := 98) (v := am_R 167) rfl rfl (rfl) ?_
    refine ax_load (q := 99) rfl rfl rfl rfl rfl ?_
    refine ax_getf (q := 102) (v := am_R 169) rfl rfl (rfl) ?_
    refine ax_load (q := 104) rfl rfl rfl rfl rfl ?_
    refine bx_iald (q := 105) (k := k) (z := ((M.getD k 0 : Nat) : Int)) rfl rfl (rfl) (by omega) (by omega) ((congrFun (sI_ne (by decide)) _).trans (hM k (by omega))) ?_
    refine ax_load (q := 106) rfl rfl rfl rfl rfl ?_
    refine ax_getf (q := 109) (v := am_R 168) rfl rfl (rfl) ?_
    refine ax_load (q := 111) rfl rfl rfl rfl rfl ?_
    refine bx_iald (q := 112) (k := k) (z := ((l.getD k 0 : Nat) : Int)) rfl rfl (rfl) (by omega) (by omega) ((congrFun (sI_ne (by decide)) _).trans (hl.2 k (by omega))) ?_
    refine bx_iast (q := 113) (k := M.getD k 0) rfl rfl (rfl) (by omega) (by omega) ?_
    refine ax_iinc (q := 116) (z' := ((k + 1 : Nat) : Int)) (L' := [some (am_R 135), some (am_I ((n : Nat) : Int)), some (am_I x), some (am_I 1), some (am_I y), some (am_I ((k + 1 : Nat) : Int))]) rfl rfl rfl rfl (am_we (by omega) (by omega) (by omega)) rfl ?_
    refine ax_goto (x := 88) rfl ?_
    have g := ih (k + 1) (by omega)
    rw [sI_sI, sI_at]
    exact g

theorem l_rings {d : Nat} (hd : 4 ≤ d) {T : sp_T} (hV : TV_ T) {b : Int} {v : sp_V} (hW : VV_ T b v) {M : List Nat} {n : Nat} (hn : M.length = n) (hMp : ∀ k, k < n → M.getD k 0 < nP_ T) (hnd : ∀ i j, i < n → j < n → M.getD i 0 = M.getD j 0 → i = j) {Q : Option am_V → am_S → Prop} : ∀ (ls : List (List Nat)) (l : List Nat) (B : Int × List Nat) (σ : am_S) (o4 o5 : Option am_V), TM_ T σ → σ.1 164 = v → RG_ M σ → WL_ l σ → sq_ (nr_ n) (l :: ls) → (∀ r, r ∈ l :: ls → r.length = n ∧ ∀ k, k < n → r.getD k 0 < nP_ T) → (B.1 < 0 ∨ ∀ k, k < n → σ.1 167 (M.getD k 0) = (B.2.getD k 0 : Int)) → (∀ p, p < nP_ T → (∀ k, k < n → M.getD k 0 ≠ p) → σ.1 167 p = -1) → (∀ σ' o4 o5, fr_ [167, 168] σ σ' → ((be_ (fun r => rg_ T v M r) (l :: ls) B).1 < 0 ∨ ∀ k, k < n → σ'.1 167 (M.getD k 0) = ((be_ (fun r => rg_ T v M r) (l :: ls) B).2.getD k 0 : Int)) → (∀ p, p < nP_ T → (∀ k, k < n → M.getD k 0 ≠ p) → σ'.1 167 p = -1) → aW d 0 k_X9_rings Q 128 [some (am_R 135), some (am_I ((n : Nat) : Int)), some (am_I (be_ (fun r => rg_ T v M r) (l :: ls) B).1), some (am_I 0), o4, o5] [] σ') → aW d 0 k_X9_rings Q 65 [some (am_R 135), some (am_I ((n : Nat) : Int)), some (am_I B.1), some (am_I 1), o4, o5] [] σ := by
  have h6 := hV.nP
  intro ls
  induction ls with
  | nil =>
    intro l B σ o4 o5 hT ha hR hS hsq hok hB hE hQ
    have hok0 := hok l (List.mem_cons_self ..)
    refine ax_load (q := 66) rfl rfl rfl rfl rfl ?_
    refine ax_if_eq (q := 69) (x := 128) rfl rfl (fun h => absurd h (by omega)) (fun h66 => ?_)
    refine ax_load (q := 70) rfl rfl rfl rfl rfl ?_
    refine ax_load (q := 71) rfl rfl rfl rfl rfl ?_
    refine ax_callv (q := 74) rfl rfl rfl rfl rfl rfl ?_
    refine m_ringWorthN (by omega) hT hV ha hW hR hS hn hok0.1 hMp hok0.2 ?_
    have hn6 : n ≤ 6 := by have := hS.1; omega
    refine ax_store (q := 76) (L' := [some (am_R 135), some (am_I ((n : Nat) : Int)), some (am_I B.1), some (am_I 1), some (am_I (rg_ T v M l)), o5]) rfl rfl rfl rfl rfl rfl ?_
    refine ax_load (q := 78) rfl rfl rfl rfl rfl ?_
    refine ax_load (q := 79) rfl rfl rfl rfl rfl ?_
    refine ax_icmp_le (q := 82) (x := 119) rfl rfl (fun h79 => ?_) (fun h79 => ?_)
    · refine ax_load (q := 120) rfl rfl rfl rfl rfl ?_
      refine ax_load (q := 121) rfl rfl rfl rfl rfl ?_
      refine ax_callv (q := 124) rfl rfl rfl rfl rfl rfl ?_
      refine m_nextRowN (by omega) hS hok0.1 ⟨fun _ => ?_, fun S' hS' => absurd ((show nr_ n l = none from hsq).symm.trans hS') (by simp)⟩
      refine ax_store (q := 125) (L' := [some (am_R 135), some (am_I ((n : Nat) : Int)), some (am_I B.1), some (am_I 0), some (am_I (rg_ T v M l)), o5]) rfl rfl rfl rfl rfl rfl ?_
      refine ax_goto (x := 65) rfl ?_
      refine ax_load (q := 66) rfl rfl rfl rfl rfl ?_
      refine ax_if_eq (q := 69) (x := 128) rfl rfl (fun h66 => ?_) (fun h => absurd h (by omega))
      have e : (if B.1 < (fun r => rg_ T v M r) l then ((fun r => rg_ T v M r) l, l) else B) = B := by first | exact if_pos (by show _ < rg_ T v M l; omega) | exact if_neg (by show ¬ _ < rg_ T v M l; omega)
      have g := hQ σ (some (am_I (rg_ T v M l))) (o5) (fr_rf _ _) (by show (((if B.1 < (fun r => rg_ T v M r) l then ((fun r => rg_ T v M r) l, l) else B).1) < 0 ∨ ∀ k, k < n → _ = (((if B.1 < (fun r => rg_ T v M r) l then ((fun r => rg_ T v M r) l, l) else B).2.getD k 0 : Nat) : Int)); rw [e]; exact hB) hE
      rw [show be_ (fun r => rg_ T v M r) [l] B = (if B.1 < (fun r => rg_ T v M r) l then ((fun r => rg_ T v M r) l, l) else B) from rfl, e] at g
      exact g
    · refine ax_load (q := 84) rfl rfl rfl rfl rfl ?_
      refine ax_store (q := 85) (L' := [some (am_R 135), some (am_I ((n : Nat) : Int)), some (am_I (rg_ T v M l)), some (am_I 1), some (am_I (rg_ T v M l)), o5]) rfl rfl rfl rfl rfl rfl ?_
      refine ax_const (q := 86) (v := am_I 0) rfl rfl rfl ?_
      refine ax_store (q := 88) (L' := [some (am_R 135), some (am_I ((n : Nat) : Int)), some (am_I (rg_ T v M l)), some (am_I 1), some (am_I (rg_ T v M l)), some (am_I 0)]) rfl rfl rfl rfl rfl rfl ?_
      have g := l_rings3 (d := d) hR hS hn hok0.1 (fun k hk => by have := hMp k hk; omega) (x := rg_ T v M l) (y := rg_ T v M l) (Q := Q) ?_ n 0 (by omega)
      · rw [show ly_ M l (σ.1 167) 0 = σ.1 167 from rfl, sI_id] at g
        exact g
      have hT2 : TM_ T (am_sI σ 167 (ly_ M l (σ.1 167) n)) := hT.sI (by decide)
      have hS2 : WL_ l (am_sI σ 167 (ly_ M l (σ.1 167) n)) := ⟨hS.1, fun k hk => by rw [sI_ne (by decide)]; exact hS.2 k hk⟩
      have hl2 : ∀ k, k < n → (am_sI σ 167 (ly_ M l (σ.1 167) n)).1 167 (M.getD k 0) = (l.getD k 0 : Int) := fun k hk => by rw [sI_at]; exact ly_in n hnd k hk
      have hE2 : ∀ p, p < nP_ T → (∀ k, k < n → M.getD k 0 ≠ p) → (am_sI σ 167 (ly_ M l (σ.1 167) n)).1 167 p = -1 := fun p hp hk => by rw [sI_at, ly_out n hk]; exact hE p hp hk
      refine ax_load (q := 120) rfl rfl rfl rfl rfl ?_
      refine ax_load (q := 121) rfl rfl rfl rfl rfl ?_
      refine ax_callv (q := 124) rfl rfl rfl rfl rfl rfl ?_
      refine m_nextRowN (by omega) hS2 hok0.1 ⟨fun _ => ?_, fun S' hS' => absurd ((show nr_ n l = none from hsq).symm.trans hS') (by simp)⟩
      refine ax_store (q := 125) (L' := [some (am_R 135), some (am_I ((n : Nat) : Int)), some (am_I (rg_ T v M l)), some (am_I 0), some (am_I (rg_ T v M l)), some (am_I ((n : Nat) : Int))]) rfl rfl rfl rfl rfl rfl ?_
      refine ax_goto (x := 65) rfl ?_
      refine ax_load (q := 66) rfl rfl rfl rfl rfl ?_
      refine ax_if_eq (q := 69) (x := 128) rfl rfl (fun h66 => ?_) (fun h => absurd h (by omega))
      have e : (if B.1 < (fun r => rg_ T v M r) l then ((fun r => rg_ T v M r) l, l) else B) = ((fun r => rg_ T v M r) l, l) := by first | exact if_pos (by show _ < rg_ T v M l; omega) | exact if_neg (by show ¬ _ < rg_ T v M l; omega)
      have g := hQ (am_sI σ 167 (ly_ M l (σ.1 167) n)) (some (am_I (rg_ T v M l))) (some (am_I ((n : Nat) : Int))) (fr_sI (fr_rf _ _) (by decide)) (by show (((if B.1 < (fun r => rg_ T v M r) l then ((fun r => rg_ T v M r) l, l) else B).1) < 0 ∨ ∀ k, k < n → _ = (((if B.1 < (fun r => rg_ T v M r) l then ((fun r => rg_ T v M r) l, l) else B).2.getD k 0 : Nat) : Int)); rw [e]; exact Or.inr hl2) hE2
      rw [show be_ (fun r => rg_ T v M r) [l] B = (if B.1 < (fun r => rg_ T v M r) l then ((fun r => rg_ T v M r) l, l) else B) from rfl, e] at g
      exact g
  | cons l2 ls ih =>
    intro l B σ o4 o5 hT ha hR hS hsq hok hB hE hQ
    have hok0 := hok l (List.mem_cons_self ..)
    refine ax_load (q := 66) rfl rfl rfl rfl rfl ?_
    refine ax_if_eq (q := 69) (x := 128) rfl rfl (fun h => absurd h (by omega)) (fun h66 => ?_)
    refine ax_load (q := 70) rfl rfl rfl rfl rfl ?_
    refine ax_load (q := 71) rfl rfl rfl rfl rfl ?_
    refine ax_callv (q := 74) rfl rfl rfl rfl rfl rfl ?_
    refine m_ringWorthN (by omega) hT hV ha hW hR hS hn hok0.1 hMp hok0.2 ?_
    have hn6 : n ≤ 6 := by have := hS.1; omega
    refine ax_store (q := 76) (L' := [some (am_R 135), some (am_I ((n : Nat) : Int)), some (am_I B.1), some (am_I 1), some (am_I (rg_ T v M l)), o5]) rfl rfl rfl rfl rfl rfl ?_
    refine ax_load (q := 78) rfl rfl rfl rfl rfl ?_
    refine ax_load (q := 79) rfl rfl rfl rfl rfl ?_
    refine ax_icmp_le (q := 82) (x := 119) rfl rfl (fun h79 => ?_) (fun h79 => ?_)
    · refine ax_load (q := 120) rfl rfl rfl rfl rfl ?_
      refine ax_load (q := 121) rfl rfl rfl rfl rfl ?_
      refine ax_callv (q := 124) rfl rfl rfl rfl rfl rfl ?_
      refine m_nextRowN (by omega) hS hok0.1 ⟨fun hno => absurd (hno.symm.trans hsq.1) (by simp), fun S' hS' σ3 hf3 hx3 => ?_⟩
      obtain rfl : l2 = S' := Option.some.inj (hsq.1.symm.trans hS')
      refine ax_store (q := 125) (L' := [some (am_R 135), some (am_I ((n : Nat) : Int)), some (am_I B.1), some (am_I 1), some (am_I (rg_ T v M l)), o5]) rfl rfl rfl rfl rfl rfl ?_
      refine ax_goto (x := 65) rfl ?_
      have e : (if B.1 < (fun r => rg_ T v M r) l then ((fun r => rg_ T v M r) l, l) else B) = B := by first | exact if_pos (by show _ < rg_ T v M l; omega) | exact if_neg (by show ¬ _ < rg_ T v M l; omega)
      have g := fun hb => ih l2 (if B.1 < (fun r => rg_ T v M r) l then ((fun r => rg_ T v M r) l, l) else B) σ3 (some (am_I (rg_ T v M l))) (o5) (hT.f5 hf3 (by decide) (by decide)) ((hf3.1 164 (by decide)).trans (ha)) (fun k hk => by rw [hf3.1 169 (by decide)]; exact hR k hk) hx3 hsq.2 (fun S' h' => hok S' (List.mem_cons_of_mem _ h')) hb (fun p hp hk => by rw [hf3.1 167 (by decide)]; exact hE p hp hk) (fun σ' o4 o5 hf' hl' hE' => hQ σ' o4 o5 (fr_tr (fr_tr (fr_rf _ _) hf3 (by decide)) hf' (fun a h => h)) hl' hE')
      rw [e] at g
      exact g (hB.imp_right (fun hB k hk => by rw [hf3.1 167 (by decide)]; exact hB k hk))
    · refine ax_load (q := 84) rfl rfl rfl rfl rfl ?_
      refine ax_store (q := 85) (L' := [some (am_R 135), some (am_I ((n : Nat) : Int)), some (am_I (rg_ T v M l)), some (am_I 1), some (am_I (rg_ T v M l)), o5]) rfl rfl rfl rfl rfl rfl ?_
      refine ax_const (q := 86) (v := am_I 0) rfl rfl rfl ?_
      refine ax_store (q := 88) (L' := [some (am_R 135), some (am_I ((n : Nat) : Int)), some (am_I (rg_ T v M l)), some (am_I 1), some (am_I (rg_ T v M l)), some (am_I 0)]) rfl rfl rfl rfl rfl rfl ?_
      have g := l_rings3 (d := d) hR hS hn hok0.1 (fun k hk => by have := hMp k hk; omega) (x := rg_ T v M l) (y := rg_ T v M l) (Q := Q) ?_ n 0 (by omega)
      · rw [show ly_ M l (σ.1 167) 0 = σ.1 167 from rfl, sI_id] at g
        exact g
      have hT2 : TM_ T (am_sI σ 167 (ly_ M l (σ.1 167) n)) := hT.sI (by decide)
      have hS2 : WL_ l (am_sI σ 167 (ly_ M l (σ.1 167) n)) := ⟨hS.1, fun k hk => by rw [sI_ne (by decide)]; exact hS.2 k hk⟩
      have hl2 : ∀ k, k < n → (am_sI σ 167 (ly_ M l (σ.1 167) n)).1 167 (M.getD k 0) = (l.getD k 0 : Int) := fun k hk => by rw [sI_at]; exact ly_in n hnd k hk
      have hE2 : ∀ p, p < nP_ T → (∀ k, k < n → M.getD k 0 ≠ p) → (am_sI σ 167 (ly_ M l (σ.1 167) n)).1 167 p = -1 := fun p hp hk => by rw [sI_at, ly_out n hk]; exact hE p hp hk
      refine ax_load (q := 120) rfl rfl rfl rfl rfl ?_
      refine ax_load (q := 121) rfl rfl rfl rfl rfl ?_
      refine ax_callv (q := 124) rfl rfl rfl rfl rfl rfl ?_
      refine m_nextRowN (by omega) hS2 hok0.1 ⟨fun hno => absurd (hno.symm.trans hsq.1) (by simp), fun S' hS' σ3 hf3 hx3 => ?_⟩
      obtain rfl : l2 = S' := Option.some.inj (hsq.1.symm.trans hS')
      refine ax_store (q := 125) (L' := [some (am_R 135), some (am_I ((n : Nat) : Int)), some (am_I (rg_ T v M l)), some (am_I 1), some (am_I (rg_ T v M l)), some (am_I ((n : Nat) : Int))]) rfl rfl rfl rfl rfl rfl ?_
      refine ax_goto (x := 65) rfl ?_
      have e : (if B.1 < (fun r => rg_ T v M r) l then ((fun r => rg_ T v M r) l, l) else B) = ((fun r => rg_ T v M r) l, l) := by first | exact if_pos (by show _ < rg_ T v M l; omega) | exact if_neg (by show ¬ _ < rg_ T v M l; omega)
      have g := fun hb => ih l2 (if B.1 < (fun r => rg_ T v M r) l then ((fun r => rg_ T v M r) l, l) else B) σ3 (some (am_I (rg_ T v M l))) (some (am_I ((n : Nat) : Int))) (hT2.f5 hf3 (by decide) (by decide)) ((hf3.1 164 (by decide)).trans ((sI_ne (by decide)).trans ha)) (fun k hk => by rw [hf3.1 169 (by decide), sI_ne (by decide)]; exact hR k hk) hx3 hsq.2 (fun S' h' => hok S' (List.mem_cons_of_mem _ h')) hb (fun p hp hk => by rw [hf3.1 167 (by decide)]; exact hE2 p hp hk) (fun σ' o4 o5 hf' hl' hE' => hQ σ' o4 o5 (fr_tr (fr_tr (fr_sI (fr_rf _ _) (by decide)) hf3 (by decide)) hf' (fun a h => h)) hl' hE')
      rw [e] at g
      exact g (Or.inr (fun k hk => by rw [hf3.1 167 (by decide)]; exact hl2 k hk))

def rm_ (T : sp_T) (v : sp_V) : List Nat := mb_ (bi_ (nP_ T) (sh_ v)) (nP_ T)
def ri_ (T : sp_T) (v : sp_V) : Int × List Nat := be_ (fun r => rg_ T v (rm_ T v) r) (rs_ (rm_ T v)) (-1, [])

theorem m_rings {d : Nat} (hd : 5 ≤ d) {σ : am_S} {T : sp_T} (hT : TM_ T σ) (hV : TV_ T) {b : Int} {v w : sp_V} (hw : σ.1 163 = w) (hv : v = cp_ w (σ.1 164) 50) (hW : VV_ T b w) {Q : Option am_V → am_S → Prop} (hQ : ∀ σ', fq_ [164, 167, 168, 169] [68] σ σ' → σ'.1 135 68 = (nP_ T : Int) → (∀ k, k < (rm_ T v).length → σ'.1 167 ((rm_ T v).getD k 0) = ((ri_ T v).2.getD k 0 : Int)) → (∀ p, p < nP_ T → (∀ k, k < (rm_ T v).length → (rm_ T v).getD k 0 ≠ p) → σ'.1 167 p = -1) → Q (some (am_I (ri_ T v).1)) σ') : am_Ev d 243 [am_R 135] σ Q := by
  obtain ⟨d, rfl⟩ : ∃ e, d = e + 1 := ⟨d - 1, by omega⟩
  have h6 := hV.nP
  have hvw : ∀ j, j < 50 → v j = w j := fun j hj => by rw [hv]; exact cp_at hj
  have hW2 : VV_ T b v := hW.cg hV hvw
  have hsb := bi_lt (sh_ v) (nP_ T)
  have h264 : 2 ^ nP_ T ≤ 64 := by show 2 ^ nP_ T ≤ 2 ^ 6; exact Nat.pow_le_pow_right (by decide) (by omega)
  obtain ⟨M, hMd⟩ : ∃ M, M = rm_ T v := ⟨_, rfl⟩
  obtain ⟨ls, he, hsq, hok, hnd⟩ := rs_ok (n := nP_ T) (s := bi_ (nP_ T) (sh_ v)) (by omega) hsb
  rw [show mb_ (bi_ (nP_ T) (sh_ v)) (nP_ T) = M from hMd.symm] at he hsq hok hnd
  have hM6 : M.length ≤ 6 := by have := mb_le (bi_ (nP_ T) (sh_ v)) (nP_ T); rw [show mb_ (bi_ (nP_ T) (sh_ v)) (nP_ T) = M from hMd.symm] at this; omega
  have hMp : ∀ k, k < M.length → M.getD k 0 < nP_ T := fun k hk => ((hok M (List.mem_cons_self ..)).2 k hk).2
  have hTv : TM_ T (am_sI σ 164 v) := hT.sI (by decide)
  rw [← hMd] at hQ
  refine ev_in (m := 243) (c := k_X9_rings) (L := [some (am_R 135), none, none, none, none, none]) rfl rfl rfl rfl rfl rfl ?_
  refine ax_load (q := 1) rfl rfl rfl rfl rfl ?_
  refine ax_callv (q := 4) rfl rfl rfl rfl rfl rfl ?_
  refine m_load (by omega) ?_
  rw [hw, ← hv]
  refine ax_load (q := 5) rfl rfl rfl rfl rfl ?_
  refine ax_load (q := 6) rfl rfl rfl rfl rfl ?_
  refine ax_callv (q := 9) rfl rfl rfl rfl rfl rfl ?_
  refine m_shutSet (by omega) hTv hV (sI_at _ _ _) ?_
  refine ax_callv (q := 12) rfl rfl rfl rfl rfl rfl ?_
  refine m_layFirst (by omega) hTv hV (by omega) (fun σl hfl hwl => ?_)
  rw [show mb_ (bi_ (nP_ T) (sh_ v)) (nP_ T) = M from hMd.symm] at hwl ⊢
  have hTl : TM_ T σl := hTv.f5 hfl (by decide) (by decide)
  have hal : σl.1 164 = v := (hfl.1 164 (by decide)).trans (sI_at _ _ _)
  refine ax_store (q := 13) (L' := [some (am_R 135), some (am_I ((M.length : Nat) : Int)), none, none, none, none]) rfl rfl rfl rfl rfl rfl ?_
  refine ax_const (q := 14) (v := am_I 0) rfl rfl rfl ?_
  refine ax_store (q := 15) (L' := [some (am_R 135), some (am_I ((M.length : Nat) : Int)), some (am_I 0), none, none, none]) rfl rfl rfl rfl rfl rfl ?_
  have g := l_rings1 (d := d) (σ := σl) (n := M.length) hM6 (Q := Q) ?_ M.length 0 (by omega)
  · rw [cp_0, sI_id] at g
    exact g
  obtain ⟨σr, hσr⟩ : ∃ s, s = (am_sI σl 169 (cp_ (σl.1 168) (σl.1 169) M.length)) := ⟨_, rfl⟩
  rw [← hσr]
  have hRr : RG_ M σr := fun k hk => by rw [hσr, sI_at, cp_at hk]; exact hwl.2 k hk
  have hTr : TM_ T σr := by rw [hσr]; exact hTl.sI (by decide)
  have hfr : fr_ [169] σl σr := by rw [hσr]; exact fr_sI (fr_rf _ _) (by decide)
  refine ax_const (q := 39) (v := am_I 0) rfl rfl rfl ?_
  refine ax_store (q := 40) (L' := [some (am_R 135), some (am_I ((M.length : Nat) : Int)), some (am_I 0), none, none, none]) rfl rfl rfl rfl rfl rfl ?_
  have g := l_rings2 (d := d) (σ := σr) hTr hV (n := M.length) (Q := Q) ?_ (nP_ T) 0 (by omega)
  · rw [cp_0, sI_id] at g
    exact g
  refine ax_const (q := 62) (v := am_I (-1)) rfl rfl rfl ?_
  refine ax_store (q := 63) (L' := [some (am_R 135), some (am_I ((M.length : Nat) : Int)), some (am_I (-1)), none, none, none]) rfl rfl rfl rfl rfl rfl ?_
  refine ax_const (q := 64) (v := am_I 1) rfl rfl rfl ?_
  refine ax_store (q := 65) (L' := [some (am_R 135), some (am_I ((M.length : Nat) : Int)), some (am_I (-1)), some (am_I 1), none, none]) rfl rfl rfl rfl rfl rfl ?_
  have hn0 : ¬ (be_ (fun r => rg_ T v M r) (M :: ls) (-1, [])).1 < 0 := by have q1 := be_1 (fun r => rg_ T v M r) M ls (-1, []); have q2 := rg_self hV hW2 hMp; omega
  refine l_rings (by omega) hV hW2 rfl hMp hnd ls M (-1, []) (am_sI σr 167 (cp_ (fun _ => -1) (σr.1 167) (nP_ T))) none none (hTr.sI (by decide)) ((sI_ne (by decide)).trans ((hfr.1 164 (by decide)).trans hal)) (fun k hk => by rw [sI_ne (by decide)]; exact hRr k hk) ⟨hM6, fun k hk => by rw [sI_ne (by decide), hfr.1 168 (by decide)]; exact hwl.2 k hk⟩ hsq (fun r hr => ⟨(hok r hr).1, fun k hk => ((hok r hr).2 k (by rw [(hok r hr).1]; exact hk)).2⟩) (Or.inl (by decide)) (fun p hp _ => by rw [sI_at, cp_at hp]) (fun σ1 o4 o5 hf1 hl1 hE1 => ?_)
  have hT1 : TM_ T σ1 := TM_.f5 (hTr.sI (a := 167) (by decide)) hf1 (by decide) (by decide)
  refine ax_load (q := 129) rfl rfl rfl rfl rfl ?_
  refine ax_load (q := 130) rfl rfl rfl rfl rfl ?_
  refine ax_getf (q := 133) (v := am_I ((nP_ T : Nat) : Int)) rfl rfl (am_fg rfl (hT1.s53.trans hV.nP.1)) ?_
  refine ax_putf (q := 136) rfl rfl rfl ?_
  refine ax_load (q := 137) rfl rfl rfl rfl rfl ?_
  refine ax_ret (r := some (am_I ((be_ (fun r => rg_ T v M r) (M :: ls) (-1, [])).1))) rfl rfl ?_
  have hf0 : fr_ [164, 167, 168, 169] σ σ1 := fr_tr (fr_tr (l := [164, 167, 168, 169]) (fr_tr (l := [164, 167, 168, 169]) (fr_sI (fr_rf _ _) (by decide)) hfl (by decide)) hfr (by decide)) (fr_tr (l := [167, 168]) (fr_sI (fr_rf _ _) (by decide)) hf1 (fun a h => h)) (by decide)
  have g := hQ (am_sI σ1 135 (am_up (σ1.1 135) 68 ((nP_ T : Nat) : Int))) (fq_s5 (fq_fr hf0 (by decide) (fun _ q => q)) (by decide)) (by rw [sI_at, am_up_same]) (fun k hk => by rw [sI_ne (by decide)]; unfold ri_; rw [← hMd, he]; exact (hl1.resolve_left hn0) k hk) (fun p hp hk => by rw [sI_ne (by decide)]; exact hE1 p hp hk)
  rw [show (ri_ T v).1 = (be_ (fun r => rg_ T v M r) (M :: ls) (-1, [])).1 by unfold ri_; rw [← hMd, he]] at g
  exact g

