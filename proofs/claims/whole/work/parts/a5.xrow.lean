/-- the class's set of PERSONS -/
def RS5_ (M : List Nat) (σ : am_S) : Prop := σ.1 123 4 = (M.length : Int) ∧ M.length ≤ 6 ∧ (∀ k, k < M.length → σ.1 125 k = (M.getD k 0 : Int)) ∧ ∀ k, M.getD k 0 < 6
theorem RS5_.fr {M : List Nat} {σ σ' : am_S} (h : RS5_ M σ) {l : List Nat} (hf : fr_ l σ σ') (h1 : 123 ∉ l) (h2 : 125 ∉ l) : RS5_ M σ' := ⟨by rw [hf.1 123 h1]; exact h.1, h.2.1, fun k hk => by rw [hf.1 125 h2]; exact h.2.2.1 k hk, h.2.2.2⟩
theorem mb_lt (s : Nat) : ∀ n k, n ≤ 6 → (mb_ s n).getD k 0 < 6
  | 0, k, _ => by show ([] : List Nat).getD k 0 < 6; simp
  | n + 1, k, h => by
    have ih := mb_lt s n k (by omega)
    unfold mb_
    split
    · rw [List.getD_eq_getElem?_getD, List.getElem?_append]
      split
      · rw [List.getD_eq_getElem?_getD] at ih; exact ih
      · cases q : k - (mb_ s n).length with
        | zero => simp; omega
        | succ j => simp
    · exact ih
theorem getD_app {l : List Nat} {x k : Nat} : (l ++ [x]).getD k 0 = if k < l.length then l.getD k 0 else if k = l.length then x else 0 := by
  rw [List.getD_eq_getElem?_getD, List.getElem?_append, List.getD_eq_getElem?_getD]
  split
  · rfl
  · next h =>
    by_cases q : k = l.length
    · subst q; simp
    · rw [if_neg q]
      obtain ⟨j, hj⟩ : ∃ j, k - l.length = j + 1 := ⟨k - l.length - 1, by omega⟩
      rw [hj]; rfl

theorem xl_begin {d : Nat} {σ : am_S} {s : Nat} (hs : s < 64) {Q : Option am_V → am_S → Prop} (hQ : ∀ σ', fr_ [123, 125] σ σ' → RS5_ (mb_ s 6) σ' → Q none σ') : ∀ (m k : Nat), k + m = 6 → ∀ σ', fr_ [123, 125] σ σ' → σ'.1 123 4 = ((mb_ s k).length : Int) → (∀ j, j < (mb_ s k).length → σ'.1 125 j = ((mb_ s k).getD j 0 : Int)) → aW d 4 k_X5_begin Q 7 [some (am_R 123), some (am_I ((s : Nat) : Int)), some (am_I ((k : Nat) : Int))] [] σ' := by
  intro m
  induction m with
  | zero =>
    intro k hk σ' hf h4 hm
    obtain rfl : k = 6 := by omega
    refine ax_load (q := 8) rfl rfl rfl rfl rfl ?_
    refine ax_const (q := 10) (v := am_I 6) rfl rfl rfl ?_
    refine ax_icmp_ge (q := 13) (x := 47) rfl rfl (fun h10 => ?_) (fun h => absurd h (by omega))
    refine ax_ret (r := none) rfl rfl ?_
    exact hQ _ hf ⟨h4, mb_le s 6, hm, fun k => mb_lt s 6 k (Nat.le_refl _)⟩
  | succ m ih =>
    intro k hk σ' hf h4 hm
    have hml := mb_le s k
    have hp2 : 2 ^ k < 2 ^ 8 := Nat.pow_lt_pow_right (by decide) (by omega)
    have hmb : mb_ s (k + 1) = if s.testBit k then mb_ s k ++ [k] else mb_ s k := rfl
    refine ax_load (q := 8) rfl rfl rfl rfl rfl ?_
    refine ax_const (q := 10) (v := am_I 6) rfl rfl rfl ?_
    refine ax_icmp_ge (q := 13) (x := 47) rfl rfl (fun h => absurd h (by omega)) (fun h10 => ?_)
    refine ax_load (q := 14) rfl rfl rfl rfl rfl ?_
    refine ax_const (q := 15) (v := am_I 1) rfl rfl rfl ?_
    refine ax_load (q := 16) rfl rfl rfl rfl rfl ?_
    refine ax_ishl (q := 17) (z := ((2 ^ k : Nat) : Int)) rfl rfl (am_shl1 k (by omega)) ?_
    refine ax_iand (q := 18) (z := ((s &&& 2 ^ k : Nat) : Int)) rfl rfl (am_and_nat (by omega) (by omega)) ?_
    refine ax_if_eq (q := 21) (x := 41) rfl rfl (fun h18 => ?_) (fun h18 => ?_)
    · have hbt : s.testBit k = false := by
        cases w : s.testBit k with
        | false => rfl
        | true => exfalso; rw [land_2, w] at h18; have := Nat.two_pow_pos k; rw [if_pos rfl] at h18; omega
      rw [hbt] at hmb
      refine ax_iinc (q := 44) (z' := ((k + 1 : Nat) : Int)) (L' := [some (am_R 123), some (am_I ((s : Nat) : Int)), some (am_I ((k + 1 : Nat) : Int))]) rfl rfl rfl rfl (am_we (by omega) (by omega) (by omega)) rfl ?_
      refine ax_goto (x := 7) rfl ?_
      have g := ih (k + 1) (by omega) σ' hf
      rw [hmb] at g
      exact g h4 hm
    · have hbt : s.testBit k = true := by
        cases w : s.testBit k with
        | true => rfl
        | false => exfalso; rw [land_2, w] at h18; exact h18 rfl
      rw [hbt] at hmb
      refine ax_load (q := 22) rfl rfl rfl rfl rfl ?_
      refine ax_getf (q := 25) (v := am_R 125) rfl rfl (rfl) ?_
      refine ax_load (q := 26) rfl rfl rfl rfl rfl ?_
      refine ax_getf (q := 29) (v := am_I (((mb_ s k).length : Nat) : Int)) rfl rfl (am_fg rfl (by first | exact h4 | (rw [sI_ne (by decide)]; exact h4))) ?_
      refine ax_load (q := 30) rfl rfl rfl rfl rfl ?_
      refine bx_iast (q := 31) (k := (mb_ s k).length) rfl rfl (rfl) (by omega) (by omega) ?_
      refine ax_load (q := 32) rfl rfl rfl rfl rfl ?_
      refine ax_dup (q := 33) rfl rfl rfl ?_
      refine ax_getf (q := 36) (v := am_I (((mb_ s k).length : Nat) : Int)) rfl rfl (am_fg rfl (by first | exact h4 | (rw [sI_ne (by decide)]; exact h4))) ?_
      refine ax_const (q := 37) (v := am_I 1) rfl rfl rfl ?_
      refine ax_iadd (q := 38) (z := ((((mb_ s k).length) + 1 : Nat) : Int)) rfl rfl (am_we (by omega) (by omega) (by omega)) ?_
      refine ax_putf (q := 41) rfl rfl rfl ?_
      refine ax_iinc (q := 44) (z' := ((k + 1 : Nat) : Int)) (L' := [some (am_R 123), some (am_I ((s : Nat) : Int)), some (am_I ((k + 1 : Nat) : Int))]) rfl rfl rfl rfl (am_we (by omega) (by omega) (by omega)) rfl ?_
      refine ax_goto (x := 7) rfl ?_
      have g := ih (k + 1) (by omega) (am_sI (am_sI σ' 125 (am_up (σ'.1 125) ((mb_ s k).length) ((k : Nat) : Int))) 123 (am_up ((am_sI σ' 125 (am_up (σ'.1 125) ((mb_ s k).length) ((k : Nat) : Int))).1 123) 4 ((((mb_ s k).length) + 1 : Nat) : Int))) (fr_sI (fr_sI hf (by simp)) (by simp))
      rw [hmb] at g
      refine g ?_ (fun j hj => ?_)
      · rw [sI_at, am_up_same]; simp
      · rw [sI_ne (by decide), sI_at]
        simp only [if_true, List.length_append, List.length_singleton] at hj ⊢
        rw [getD_app]
        by_cases q : j = (mb_ s k).length
        · rw [q, am_up_same, if_neg (by omega), if_pos rfl]
        · rw [am_up_ne q, if_pos (by omega)]; exact hm j (by omega)

theorem x_begin5 {d : Nat} (hd : 1 ≤ d) {σ : am_S} {s : Nat} (hs : s < 64) {Q : Option am_V → am_S → Prop} (hQ : ∀ σ', fr_ [123, 125] σ σ' → RS5_ (mb_ s 6) σ' → Q none σ') : am_Ev d 71 [am_R 123, am_I ((s : Nat) : Int)] σ Q := by
  obtain ⟨d, rfl⟩ : ∃ e, d = e + 1 := ⟨d - 1, by omega⟩
  refine ev_in (m := 71) (c := k_X5_begin) (L := [some (am_R 123), some (am_I ((s : Nat) : Int)), none]) rfl rfl rfl rfl rfl rfl ?_
  refine ax_load (q := 1) rfl rfl rfl rfl rfl ?_
  refine ax_const (q := 2) (v := am_I 0) rfl rfl rfl ?_
  refine ax_putf (q := 5) rfl rfl rfl ?_
  refine ax_const (q := 6) (v := am_I 0) rfl rfl rfl ?_
  refine ax_store (q := 7) (L' := [some (am_R 123), some (am_I ((s : Nat) : Int)), some (am_I 0)]) rfl rfl rfl rfl rfl rfl ?_
  exact xl_begin hs hQ 6 0 (by omega) _ (fr_sI (fr_rf _ _) (by simp)) (by rw [sI_at, am_up_same]; rfl) (fun j hj => absurd hj (by simp [mb_]))

theorem fa_bd : ∀ n, n ≤ 6 → 1 ≤ fa_ n ∧ fa_ n ≤ 720 := by decide

theorem xl_count {d : Nat} {σ : am_S} {n : Nat} (hn : σ.1 123 4 = (n : Int)) (hn6 : n ≤ 6) {Q : Option am_V → am_S → Prop} (hQ : Q (some (am_I ((fa_ n : Nat) : Int))) σ) : ∀ (m k : Nat), k + m = n → 1 ≤ k → aW d 0 k_X5_count Q 4 [some (am_R 123), some (am_I ((fa_ k : Nat) : Int)), some (am_I (((k + 1) : Nat) : Int))] [] σ := by
  intro m
  induction m with
  | zero =>
    intro k hk hk1
    obtain hk2 : k = n := by omega
    subst hk2
    refine ax_load (q := 5) rfl rfl rfl rfl rfl ?_
    refine ax_load (q := 6) rfl rfl rfl rfl rfl ?_
    refine ax_getf (q := 9) (v := am_I ((k : Nat) : Int)) rfl rfl (am_fg rfl hn) ?_
    refine ax_icmp_gt (q := 12) (x := 22) rfl rfl (fun h9 => ?_) (fun h => absurd h (by omega))
    refine ax_load (q := 23) rfl rfl rfl rfl rfl ?_
    refine ax_ret (r := some (am_I ((fa_ k : Nat) : Int))) rfl rfl ?_
    exact hQ
  | succ m ih =>
    intro k hk hk1
    have f1 := fa_bd k (by omega)
    have f2 := fa_bd (k + 1) (by omega)
    have e : fa_ (k + 1) = (k + 1) * fa_ k := rfl
    have e2 : ((fa_ k : Nat) : Int) * ((k + 1 : Nat) : Int) = ((fa_ (k + 1) : Nat) : Int) := by rw [e, Nat.mul_comm]; exact (Int.natCast_mul _ _).symm
    refine ax_load (q := 5) rfl rfl rfl rfl rfl ?_
    refine ax_load (q := 6) rfl rfl rfl rfl rfl ?_
    refine ax_getf (q := 9) (v := am_I ((n : Nat) : Int)) rfl rfl (am_fg rfl hn) ?_
    refine ax_icmp_gt (q := 12) (x := 22) rfl rfl (fun h => absurd h (by omega)) (fun h9 => ?_)
    refine ax_load (q := 13) rfl rfl rfl rfl rfl ?_
    refine ax_load (q := 14) rfl rfl rfl rfl rfl ?_
    refine ax_imul (q := 15) (z := ((fa_ (k + 1) : Nat) : Int)) rfl rfl (am_we e2 (by omega) (by omega)) ?_
    refine ax_store (q := 16) (L' := [some (am_R 123), some (am_I ((fa_ (k + 1) : Nat) : Int)), some (am_I (((k + 1) : Nat) : Int))]) rfl rfl rfl rfl rfl rfl ?_
    refine ax_iinc (q := 19) (z' := ((((k + 1)) + 1 : Nat) : Int)) (L' := [some (am_R 123), some (am_I ((fa_ (k + 1) : Nat) : Int)), some (am_I ((((k + 1)) + 1 : Nat) : Int))]) rfl rfl rfl rfl (am_we (by omega) (by omega) (by omega)) rfl ?_
    refine ax_goto (x := 4) rfl ?_
    exact ih (k + 1) (by omega) (by omega)

theorem x_count {d : Nat} (hd : 1 ≤ d) {σ : am_S} {n : Nat} (hn : σ.1 123 4 = (n : Int)) (hn6 : n ≤ 6) {Q : Option am_V → am_S → Prop} (hQ : Q (some (am_I ((fa_ n : Nat) : Int))) σ) : am_Ev d 72 [am_R 123] σ Q := by
  obtain ⟨d, rfl⟩ : ∃ e, d = e + 1 := ⟨d - 1, by omega⟩
  refine ev_in (m := 72) (c := k_X5_count) (L := [some (am_R 123), none, none]) rfl rfl rfl rfl rfl rfl ?_
  by_cases hz : n = 0
  · subst hz
    refine ax_const (q := 1) (v := am_I 1) rfl rfl rfl ?_
    refine ax_store (q := 2) (L' := [some (am_R 123), some (am_I 1), none]) rfl rfl rfl rfl rfl rfl ?_
    refine ax_const (q := 3) (v := am_I 2) rfl rfl rfl ?_
    refine ax_store (q := 4) (L' := [some (am_R 123), some (am_I 1), some (am_I 2)]) rfl rfl rfl rfl rfl rfl ?_
    refine ax_load (q := 5) rfl rfl rfl rfl rfl ?_
    refine ax_load (q := 6) rfl rfl rfl rfl rfl ?_
    refine ax_getf (q := 9) (v := am_I 0) rfl rfl (am_fg rfl hn) ?_
    refine ax_icmp_gt (q := 12) (x := 22) rfl rfl (fun h9 => ?_) (fun h => absurd h (by omega))
    refine ax_load (q := 23) rfl rfl rfl rfl rfl ?_
    refine ax_ret (r := some (am_I 1)) rfl rfl ?_
    exact hQ
  · refine ax_const (q := 1) (v := am_I 1) rfl rfl rfl ?_
    refine ax_store (q := 2) (L' := [some (am_R 123), some (am_I 1), none]) rfl rfl rfl rfl rfl rfl ?_
    refine ax_const (q := 3) (v := am_I 2) rfl rfl rfl ?_
    refine ax_store (q := 4) (L' := [some (am_R 123), some (am_I 1), some (am_I 2)]) rfl rfl rfl rfl rfl rfl ?_
    exact xl_count hn hn6 hQ (n - 1) 1 (by omega) (Nat.le_refl _)

def ml2_ (u : Nat) : List Nat → Nat → Nat
  | [], _ => 0
  | m :: l, a => if u.testBit m then ml2_ u l a else (if a = 0 then m else ml2_ u l (a - 1))
theorem ml2_eq (u : Nat) : ∀ (l : List Nat) (a : Nat), ml2_ u l a = (l.filter (fun m => !u.testBit m)).getD a 0
  | [], a => by simp [ml2_]
  | m :: l, a => by
    unfold ml2_
    rw [List.filter_cons]
    cases q : u.testBit m with
    | true => simp [ml2_eq u l a]
    | false =>
      cases a with
      | zero => simp
      | succ a => simp [ml2_eq u l a]
theorem drop_get {M : List Nat} {i : Nat} (h : i < M.length) : M.drop i = M.getD i 0 :: M.drop (i + 1) := by
  rw [List.drop_eq_getElem_cons h, List.getD_eq_getElem?_getD, List.getElem?_eq_getElem h]; rfl

theorem xl_ml {d : Nat} {σ : am_S} {M : List Nat} (hM : RS5_ M σ) {u aa : Nat} (hu : u < 256) (haa : aa < 100000) {Q : Option am_V → am_S → Prop} : ∀ (m i a : Nat), i + m = M.length → a < 100000 → (hQ : Q (some (am_I ((ml2_ u (M.drop i) a : Nat) : Int))) σ) → aW d 0 k_X5_memberLeft Q 5 [some (am_R 123), some (am_I ((u : Nat) : Int)), some (am_I ((aa : Nat) : Int)), some (am_I ((a : Nat) : Int)), some (am_I ((i : Nat) : Int))] [] σ := by
  obtain ⟨h4, h6, hme, hm6⟩ := hM
  intro m
  induction m with
  | zero =>
    intro i a hi ha hQ
    obtain hi2 : i = M.length := by omega
    subst hi2
    rw [List.drop_length] at hQ
    refine ax_load (q := 7) rfl rfl rfl rfl rfl ?_
    refine ax_load (q := 8) rfl rfl rfl rfl rfl ?_
    refine ax_getf (q := 11) (v := am_I ((M.length : Nat) : Int)) rfl rfl (am_fg rfl h4) ?_
    refine ax_icmp_ge (q := 14) (x := 49) rfl rfl (fun h11 => ?_) (fun h => absurd h (by omega))
    refine ax_const (q := 50) (v := am_I 0) rfl rfl rfl ?_
    refine ax_ret (r := some (am_I 0)) rfl rfl ?_
    exact hQ
  | succ m ih =>
    intro i a hi ha hQ
    have hm := hm6 i
    have hmi := hme i (by omega)
    have hp2 : 2 ^ (M.getD i 0) < 2 ^ 8 := Nat.pow_lt_pow_right (by decide) (by omega)
    rw [drop_get (by omega)] at hQ
    have e : ml2_ u (M.getD i 0 :: M.drop (i + 1)) a = if u.testBit (M.getD i 0) then ml2_ u (M.drop (i + 1)) a else (if a = 0 then M.getD i 0 else ml2_ u (M.drop (i + 1)) (a - 1)) := rfl
    rw [e] at hQ
    refine ax_load (q := 7) rfl rfl rfl rfl rfl ?_
    refine ax_load (q := 8) rfl rfl rfl rfl rfl ?_
    refine ax_getf (q := 11) (v := am_I ((M.length : Nat) : Int)) rfl rfl (am_fg rfl h4) ?_
    refine ax_icmp_ge (q := 14) (x := 49) rfl rfl (fun h => absurd h (by omega)) (fun h11 => ?_)
    refine ax_load (q := 15) rfl rfl rfl rfl rfl ?_
    refine ax_const (q := 16) (v := am_I 1) rfl rfl rfl ?_
    refine ax_load (q := 17) rfl rfl rfl rfl rfl ?_
    refine ax_getf (q := 20) (v := am_R 125) rfl rfl (rfl) ?_
    refine ax_load (q := 22) rfl rfl rfl rfl rfl ?_
    refine bx_iald (q := 23) (k := i) (z := ((M.getD i 0 : Nat) : Int)) rfl rfl (rfl) (by omega) (by omega) (hmi) ?_
    refine ax_ishl (q := 24) (z := ((2 ^ M.getD i 0 : Nat) : Int)) rfl rfl (am_shl1 _ (by omega)) ?_
    refine ax_iand (q := 25) (z := ((u &&& 2 ^ M.getD i 0 : Nat) : Int)) rfl rfl (am_and_nat (by omega) (by omega)) ?_
    refine ax_if_ne (q := 28) (x := 43) rfl rfl (fun h25 => ?_) (fun h25 => ?_)
    · have hbt : u.testBit (M.getD i 0) = true := by
        cases w : u.testBit (M.getD i 0) with
        | true => rfl
        | false => exfalso; rw [land_2, w] at h25; exact h25 rfl
      rw [hbt] at hQ
      refine ax_iinc (q := 46) (z' := ((i + 1 : Nat) : Int)) (L' := [some (am_R 123), some (am_I ((u : Nat) : Int)), some (am_I ((aa : Nat) : Int)), some (am_I ((a : Nat) : Int)), some (am_I ((i + 1 : Nat) : Int))]) rfl rfl rfl rfl (am_we (by omega) (by omega) (by omega)) rfl ?_
      refine ax_goto (x := 5) rfl ?_
      exact ih (i + 1) a (by omega) ha hQ
    · have hbt : u.testBit (M.getD i 0) = false := by
        cases w : u.testBit (M.getD i 0) with
        | false => rfl
        | true => exfalso; rw [land_2, w] at h25; have := Nat.two_pow_pos (M.getD i 0); rw [if_pos rfl] at h25; omega
      rw [hbt] at hQ
      refine ax_load (q := 29) rfl rfl rfl rfl rfl ?_
      refine ax_if_ne (q := 32) (x := 40) rfl rfl (fun h29 => ?_) (fun h29 => ?_)
      · refine ax_iinc (q := 43) (z' := ((a - 1 : Nat) : Int)) (L' := [some (am_R 123), some (am_I ((u : Nat) : Int)), some (am_I ((aa : Nat) : Int)), some (am_I ((a - 1 : Nat) : Int)), some (am_I ((i : Nat) : Int))]) rfl rfl rfl rfl (am_we (by omega) (by omega) (by omega)) rfl ?_
        refine ax_iinc (q := 46) (z' := ((i + 1 : Nat) : Int)) (L' := [some (am_R 123), some (am_I ((u : Nat) : Int)), some (am_I ((aa : Nat) : Int)), some (am_I ((a - 1 : Nat) : Int)), some (am_I ((i + 1 : Nat) : Int))]) rfl rfl rfl rfl (am_we (by omega) (by omega) (by omega)) rfl ?_
        refine ax_goto (x := 5) rfl ?_
        have hQ2 : Q (some (am_I ((ml2_ u (M.drop (i + 1)) (a - 1) : Nat) : Int))) σ := by
          simpa [show ¬ a = 0 by omega] using hQ
        exact ih (i + 1) (a - 1) (by omega) (by omega) hQ2
      · refine ax_load (q := 33) rfl rfl rfl rfl rfl ?_
        refine ax_getf (q := 36) (v := am_R 125) rfl rfl (rfl) ?_
        refine ax_load (q := 38) rfl rfl rfl rfl rfl ?_
        refine bx_iald (q := 39) (k := i) (z := ((M.getD i 0 : Nat) : Int)) rfl rfl (rfl) (by omega) (by omega) (hmi) ?_
        refine ax_ret (r := some (am_I ((M.getD i 0 : Nat) : Int))) rfl rfl ?_
        simpa [show a = 0 by omega] using hQ

theorem x_memberLeft {d : Nat} (hd : 1 ≤ d) {σ : am_S} {M : List Nat} (hM : RS5_ M σ) {u aa : Nat} (hu : u < 256) (haa : aa < 100000) {Q : Option am_V → am_S → Prop} (hQ : Q (some (am_I ((((M.filter (fun m => !u.testBit m)).getD aa 0 : Nat)) : Int))) σ) : am_Ev d 74 [am_R 123, am_I ((u : Nat) : Int), am_I ((aa : Nat) : Int)] σ Q := by
  obtain ⟨d, rfl⟩ : ∃ e, d = e + 1 := ⟨d - 1, by omega⟩
  refine ev_in (m := 74) (c := k_X5_memberLeft) (L := [some (am_R 123), some (am_I ((u : Nat) : Int)), some (am_I ((aa : Nat) : Int)), none, none]) rfl rfl rfl rfl rfl rfl ?_
  refine ax_load (q := 1) rfl rfl rfl rfl rfl ?_
  refine ax_store (q := 2) (L' := [some (am_R 123), some (am_I ((u : Nat) : Int)), some (am_I ((aa : Nat) : Int)), some (am_I ((aa : Nat) : Int)), none]) rfl rfl rfl rfl rfl rfl ?_
  refine ax_const (q := 3) (v := am_I 0) rfl rfl rfl ?_
  refine ax_store (q := 5) (L' := [some (am_R 123), some (am_I ((u : Nat) : Int)), some (am_I ((aa : Nat) : Int)), some (am_I ((aa : Nat) : Int)), some (am_I 0)]) rfl rfl rfl rfl rfl rfl ?_
  rw [← ml2_eq] at hQ
  exact xl_ml (aa := aa) hM hu haa M.length 0 aa (by omega) haa hQ

