/-! what the town's numbers are: T holds the town's part of the store (the reference's places) -/
abbrev sp_T : Type := Nat → Nat → Int
def nP_ (T : sp_T) : Nat := (T 135 53).toNat
def nS_ (T : sp_T) : Nat := (T 135 50).toNat
def nO_ (T : sp_T) : Nat := (T 135 51).toNat
def nR_ (T : sp_T) : Nat := (T 135 52).toNat
def nF_ (T : sp_T) : Nat := (T 135 18).toNat
def sk_ (T : sp_T) (o : Nat) : Nat := (T 151 o).toNat
def pa_ (T : sp_T) (p : Nat) : Nat := (T 162 p).toNat
def TM_ (T : sp_T) (σ : am_S) : Prop := σ.1 140 = T 140 ∧ σ.1 141 = T 141 ∧ σ.1 151 = T 151 ∧ σ.1 152 = T 152 ∧ σ.1 153 = T 153 ∧ σ.1 154 = T 154 ∧ σ.1 155 = T 155 ∧ σ.1 156 = T 156 ∧ σ.1 158 = T 158 ∧ σ.1 162 = T 162 ∧ σ.1 135 18 = T 135 18 ∧ σ.1 135 21 = T 135 21 ∧ σ.1 135 50 = T 135 50 ∧ σ.1 135 51 = T 135 51 ∧ σ.1 135 52 = T 135 52 ∧ σ.1 135 53 = T 135 53 ∧ σ.1 135 54 = T 135 54 ∧ σ.1 135 55 = T 135 55 ∧ σ.1 135 60 = T 135 60
theorem TM_.a140 {T : sp_T} {σ : am_S} (h : TM_ T σ) : σ.1 140 = T 140 := h.1
theorem TM_.a141 {T : sp_T} {σ : am_S} (h : TM_ T σ) : σ.1 141 = T 141 := h.2.1
theorem TM_.a151 {T : sp_T} {σ : am_S} (h : TM_ T σ) : σ.1 151 = T 151 := h.2.2.1
theorem TM_.a152 {T : sp_T} {σ : am_S} (h : TM_ T σ) : σ.1 152 = T 152 := h.2.2.2.1
theorem TM_.a153 {T : sp_T} {σ : am_S} (h : TM_ T σ) : σ.1 153 = T 153 := h.2.2.2.2.1
theorem TM_.a154 {T : sp_T} {σ : am_S} (h : TM_ T σ) : σ.1 154 = T 154 := h.2.2.2.2.2.1
theorem TM_.a155 {T : sp_T} {σ : am_S} (h : TM_ T σ) : σ.1 155 = T 155 := h.2.2.2.2.2.2.1
theorem TM_.a156 {T : sp_T} {σ : am_S} (h : TM_ T σ) : σ.1 156 = T 156 := h.2.2.2.2.2.2.2.1
theorem TM_.a158 {T : sp_T} {σ : am_S} (h : TM_ T σ) : σ.1 158 = T 158 := h.2.2.2.2.2.2.2.2.1
theorem TM_.a162 {T : sp_T} {σ : am_S} (h : TM_ T σ) : σ.1 162 = T 162 := h.2.2.2.2.2.2.2.2.2.1
theorem TM_.s18 {T : sp_T} {σ : am_S} (h : TM_ T σ) : σ.1 135 18 = T 135 18 := h.2.2.2.2.2.2.2.2.2.2.1
theorem TM_.s21 {T : sp_T} {σ : am_S} (h : TM_ T σ) : σ.1 135 21 = T 135 21 := h.2.2.2.2.2.2.2.2.2.2.2.1
theorem TM_.s50 {T : sp_T} {σ : am_S} (h : TM_ T σ) : σ.1 135 50 = T 135 50 := h.2.2.2.2.2.2.2.2.2.2.2.2.1
theorem TM_.s51 {T : sp_T} {σ : am_S} (h : TM_ T σ) : σ.1 135 51 = T 135 51 := h.2.2.2.2.2.2.2.2.2.2.2.2.2.1
theorem TM_.s52 {T : sp_T} {σ : am_S} (h : TM_ T σ) : σ.1 135 52 = T 135 52 := h.2.2.2.2.2.2.2.2.2.2.2.2.2.2.1
theorem TM_.s53 {T : sp_T} {σ : am_S} (h : TM_ T σ) : σ.1 135 53 = T 135 53 := h.2.2.2.2.2.2.2.2.2.2.2.2.2.2.2.1
theorem TM_.s54 {T : sp_T} {σ : am_S} (h : TM_ T σ) : σ.1 135 54 = T 135 54 := h.2.2.2.2.2.2.2.2.2.2.2.2.2.2.2.2.1
theorem TM_.s55 {T : sp_T} {σ : am_S} (h : TM_ T σ) : σ.1 135 55 = T 135 55 := h.2.2.2.2.2.2.2.2.2.2.2.2.2.2.2.2.2.1
theorem TM_.s60 {T : sp_T} {σ : am_S} (h : TM_ T σ) : σ.1 135 60 = T 135 60 := h.2.2.2.2.2.2.2.2.2.2.2.2.2.2.2.2.2.2
def tm_x : List Nat := [135, 140, 141, 151, 152, 153, 154, 155, 156, 158, 162]
theorem TM_.sI {T : sp_T} {σ : am_S} (h : TM_ T σ) {a : Nat} {f : Nat → Int} (ha : a ∉ tm_x) : TM_ T (am_sI σ a f) := by
  have k : ∀ b, b ∈ tm_x → (am_sI σ a f).1 b = σ.1 b := fun b hb => am_up_ne (fun q => ha (by rw [← q]; exact hb))
  unfold TM_
  rw [k 140 (by decide), k 141 (by decide), k 151 (by decide), k 152 (by decide), k 153 (by decide), k 154 (by decide), k 155 (by decide), k 156 (by decide), k 158 (by decide), k 162 (by decide), k 135 (by decide)]
  exact h
theorem TM_.fr {T : sp_T} {σ σ1 : am_S} {l : List Nat} (h : TM_ T σ) (hf : fr_ l σ σ1) (hl : ∀ a, a ∈ tm_x → a ∉ l) : TM_ T σ1 := by
  unfold TM_
  rw [hf.1 140 (hl 140 (by decide)), hf.1 141 (hl 141 (by decide)), hf.1 151 (hl 151 (by decide)), hf.1 152 (hl 152 (by decide)), hf.1 153 (hl 153 (by decide)), hf.1 154 (hl 154 (by decide)), hf.1 155 (hl 155 (by decide)), hf.1 156 (hl 156 (by decide)), hf.1 158 (hl 158 (by decide)), hf.1 162 (hl 162 (by decide)), hf.1 135 (hl 135 (by decide))]
  exact h
theorem TM_.s135 {T : sp_T} {σ : am_S} (h : TM_ T σ) {k : Nat} {z : Int} (hk : k ∉ [18, 21, 50, 51, 52, 53, 54, 55, 60]) : TM_ T (am_sI σ 135 (am_up (σ.1 135) k z)) := by
  have e : ∀ b, b ≠ 135 → (am_sI σ 135 (am_up (σ.1 135) k z)).1 b = σ.1 b := fun b hb => am_up_ne hb
  have e2 : ∀ j, j ≠ k → (am_sI σ 135 (am_up (σ.1 135) k z)).1 135 j = σ.1 135 j := fun j hj => by
    show am_up σ.1 135 (am_up (σ.1 135) k z) 135 j = _
    rw [am_up_same, am_up_ne hj]
  unfold TM_
  rw [e 140 (by decide), e 141 (by decide), e 151 (by decide), e 152 (by decide), e 153 (by decide), e 154 (by decide), e 155 (by decide), e 156 (by decide), e 158 (by decide), e 162 (by decide), e2 18 (fun q => hk (by rw [← q]; decide)), e2 21 (fun q => hk (by rw [← q]; decide)), e2 50 (fun q => hk (by rw [← q]; decide)), e2 51 (fun q => hk (by rw [← q]; decide)), e2 52 (fun q => hk (by rw [← q]; decide)), e2 53 (fun q => hk (by rw [← q]; decide)), e2 54 (fun q => hk (by rw [← q]; decide)), e2 55 (fun q => hk (by rw [← q]; decide)), e2 60 (fun q => hk (by rw [← q]; decide))]
  exact h
/-- the depth of the formula's stack behind its first k steps -/
def de_ (T : sp_T) : Nat → Nat
  | 0 => 0
  | k + 1 => if T 140 k = 0 ∨ T 140 k = 1 then de_ T k + 1 else if T 140 k = 2 then de_ T k else de_ T k - 1
/-- a formula that can be worked: no step asks for what isn't there -/
def FV_ (T : sp_T) : Prop := (0 ≤ T 135 18 ∧ T 135 18 ≤ 300) ∧ (T 135 60 = 0 ∨ T 135 60 = 1) ∧ (T 135 60 = 1 ↔ 0 < T 135 18) ∧ ∀ k, k < nF_ T → de_ T (k + 1) ≤ 30 ∧ ((T 140 k = 0) ∨ (T 140 k = 1 ∧ 0 ≤ T 141 k ∧ T 141 k ≤ 3) ∨ (T 140 k = 2 ∧ 1 ≤ de_ T k) ∨ (T 140 k = 3 ∧ 2 ≤ de_ T k ∧ (T 141 k = 43 ∨ T 141 k = 45 ∨ T 141 k = 42 ∨ T 141 k = 47 ∨ T 141 k = 37 ∨ T 141 k = 60 ∨ T 141 k = 62 ∨ T 141 k = 61 ∨ T 141 k = 38 ∨ T 141 k = 124)))
def TV_ (T : sp_T) : Prop := (0 ≤ T 135 53 ∧ T 135 53 ≤ 6) ∧ (0 ≤ T 135 50 ∧ T 135 50 ≤ 4) ∧ (0 ≤ T 135 51 ∧ T 135 51 ≤ 8) ∧ (0 ≤ T 135 52 ∧ T 135 52 ≤ 3) ∧ (1 ≤ T 135 55 ∧ T 135 55 ≤ 60) ∧
  (∀ o, o < nO_ T → (0 ≤ T 151 o ∧ T 151 o < T 135 50) ∧ (0 ≤ T 152 o ∧ T 152 o ≤ 20) ∧ (0 ≤ T 153 o ∧ T 153 o ≤ 9) ∧ (0 ≤ T 154 o ∧ T 154 o ≤ 9) ∧ (1 ≤ T 155 o ∧ T 155 o ≤ 9) ∧ (0 ≤ T 156 o ∧ T 156 o ≤ 255)) ∧
  (∀ q o, q < nR_ T → o < nO_ T → 0 ≤ T 158 (8 * q + o) ∧ T 158 (8 * q + o) ≤ 9) ∧ (∀ p, p < nP_ T → 0 ≤ T 162 p ∧ T 162 p < T 135 52) ∧ FV_ T
section TVL
variable {T : sp_T}
theorem TV_.nP (h : TV_ T) : T 135 53 = (nP_ T : Int) ∧ nP_ T ≤ 6 := by
  have := h.1
  unfold nP_
  omega
theorem TV_.nS (h : TV_ T) : T 135 50 = (nS_ T : Int) ∧ nS_ T ≤ 4 := by
  have := h.2.1
  unfold nS_
  omega
theorem TV_.nO (h : TV_ T) : T 135 51 = (nO_ T : Int) ∧ nO_ T ≤ 8 := by
  have := h.2.2.1
  unfold nO_
  omega
theorem TV_.nR (h : TV_ T) : T 135 52 = (nR_ T : Int) ∧ nR_ T ≤ 3 := by
  have := h.2.2.2.1
  unfold nR_
  omega
theorem TV_.oa (h : TV_ T) : 1 ≤ T 135 55 ∧ T 135 55 ≤ 60 := h.2.2.2.2.1
theorem TV_.sk (h : TV_ T) {o : Nat} (ho : o < nO_ T) : T 151 o = (sk_ T o : Int) ∧ sk_ T o < nS_ T ∧ sk_ T o < 4 := by
  have h1 := (h.2.2.2.2.2.1 o ho).1
  have h2 := h.nS
  unfold sk_
  omega
theorem TV_.as (h : TV_ T) {o : Nat} (ho : o < nO_ T) : 0 ≤ T 152 o ∧ T 152 o ≤ 20 := (h.2.2.2.2.2.1 o ho).2.1
theorem TV_.se (h : TV_ T) {o : Nat} (ho : o < nO_ T) : 0 ≤ T 153 o ∧ T 153 o ≤ 9 := (h.2.2.2.2.2.1 o ho).2.2.1
theorem TV_.we (h : TV_ T) {o : Nat} (ho : o < nO_ T) : 0 ≤ T 154 o ∧ T 154 o ≤ 9 := (h.2.2.2.2.2.1 o ho).2.2.2.1
theorem TV_.wo (h : TV_ T) {o : Nat} (ho : o < nO_ T) : 1 ≤ T 155 o ∧ T 155 o ≤ 9 := (h.2.2.2.2.2.1 o ho).2.2.2.2.1
theorem TV_.ud (h : TV_ T) {o : Nat} (ho : o < nO_ T) : 0 ≤ T 156 o ∧ T 156 o ≤ 255 := (h.2.2.2.2.2.1 o ho).2.2.2.2.2
theorem TV_.od (h : TV_ T) {q o : Nat} (hq : q < nR_ T) (ho : o < nO_ T) : 0 ≤ T 158 (8 * q + o) ∧ T 158 (8 * q + o) ≤ 9 := h.2.2.2.2.2.2.1 q o hq ho
theorem TV_.pa (h : TV_ T) {p : Nat} (hp : p < nP_ T) : T 162 p = (pa_ T p : Int) ∧ pa_ T p < nR_ T ∧ pa_ T p < 3 := by
  have h1 := h.2.2.2.2.2.2.2.1 p hp
  have h2 := h.nR
  unfold pa_
  omega
theorem TV_.fv (h : TV_ T) : FV_ T := h.2.2.2.2.2.2.2.2
end TVL
/-! the play: a row of 50 numbers, laid as the reference lays it -/
abbrev sp_V : Type := Nat → Int
/-- signs joined: a step of the formula -/
def wk_ (s x y : Int) : Int := if s = 43 then am_w (x + y) else if s = 45 then am_w (x - y) else if s = 42 then am_w (x * y) else if s = 47 then (if y = 0 then 0 else am_div x y) else if s = 37 then (if y = 0 then 0 else am_rem x y) else if s = 60 then (if x < y then 1 else 0) else if s = 62 then (if y < x then 1 else 0) else if s = 61 then (if x = y then 1 else 0) else if s = 38 then (if x ≠ 0 ∧ y ≠ 0 then 1 else 0) else (if x ≠ 0 ∨ y ≠ 0 then 1 else 0)
def st_ (T : sp_T) (ask : Nat → Int) (k : Nat) (st : List Int) : List Int :=
  if T 140 k = 0 then T 141 k :: st else if T 140 k = 1 then ask (T 141 k).toNat :: st else if T 140 k = 2 then (match st with
    | x :: r => (if x = 0 then 1 else 0) :: r
    | [] => []) else (match st with
    | y :: x :: r => wk_ (T 141 k) x y :: r
    | r => r)
def ru_ (T : sp_T) (ask : Nat → Int) : Nat → List Int
  | 0 => []
  | k + 1 => st_ T ask k (ru_ T ask k)
def cl_ (x : Int) : Int := if x < 0 then 0 else if 9 < x then 9 else x
/-- what comes of teach -/
def gn_ (T : sp_T) (ask : Nat → Int) : Int := if T 135 60 = 0 then 1 else cl_ ((ru_ T ask (nF_ T)).getLastD 1)
def ak_ (l a y s : Int) : Nat → Int
  | 0 => l
  | 1 => a
  | 2 => y
  | _ => s
def an_ : Nat → (Nat → Bool) → Bool
  | 0, _ => false
  | n + 1, p => an_ n p || p n
def tb_ (x : Int) (k : Nat) : Bool := x.toNat.testBit k
def cn_ (T : sp_T) (v : sp_V) (p o : Nat) : Bool := decide (T 152 o ≤ v (24 + 4 * p + sk_ T o))
def ud_ (T : sp_T) (v : sp_V) (o : Nat) : Bool := an_ (nO_ T) (fun u => tb_ (T 156 u) o && tb_ (v 48) u)
def op_ (T : sp_T) (v : sp_V) (p : Nat) : sp_V := if v (6 + p) < 0 then am_up v (12 + p) 4 else if cn_ T v p (v (6 + p)).toNat && !ud_ T v (v (6 + p)).toNat then am_up (am_up v (12 + p) 2) 48 (((v 48).toNat ||| 2 ^ (v (6 + p)).toNat : Nat) : Int) else am_up v (12 + p) 3
/-- a level, and what a year more makes of it -/
def lv_n (T : sp_T) (l a y : Int) (s : Nat) : Int := if 20 < l + gn_ T (ak_ l a y s) then 20 else l + gn_ T (ak_ l a y s)
def ln_ (T : sp_T) (v : sp_V) (p : Nat) (s : Int) : sp_V := if s < 0 then v else am_up v (24 + 4 * p + s.toNat) (lv_n T (v (24 + 4 * p + s.toNat)) (v p) (v 49) s.toNat)
def sh_ (v : sp_V) (p : Nat) : Bool := decide (v (12 + p) < 2)
/-- one PERSON in a YEAR: the row, and how many were OPENED so far -/
def yp_ (T : sp_T) (p : Nat) (x : sp_V × Nat) : sp_V × Nat := if sh_ x.1 p then (if (am_up (ln_ T x.1 p (x.1 (18 + p))) p (ln_ T x.1 p (x.1 (18 + p)) p + 1)) p < T 135 55 then (am_up (ln_ T x.1 p (x.1 (18 + p))) p (ln_ T x.1 p (x.1 (18 + p)) p + 1), x.2) else (op_ T (am_up (ln_ T x.1 p (x.1 (18 + p))) p (ln_ T x.1 p (x.1 (18 + p)) p + 1)) p, x.2 + 1)) else x
def yl_ (T : sp_T) (v : sp_V) : Nat → sp_V × Nat
  | 0 => (v, 0)
  | p + 1 => yp_ T p (yl_ T v p)
def yr_ (T : sp_T) (v : sp_V) : sp_V := am_up (yl_ T v (nP_ T)).1 49 (v 49 + 1)
def yo_ (T : sp_T) (v : sp_V) : Nat := (yl_ T v (nP_ T)).2
/-- many years -/
def ys_ (T : sp_T) (v : sp_V) : Nat → sp_V
  | 0 => v
  | n + 1 => yr_ T (ys_ T v n)
/-- a row within bounds: ages and the year at most b -/
def VV_ (T : sp_T) (b : Int) (v : sp_V) : Prop := (0 ≤ v 49 ∧ v 49 ≤ b) ∧ (0 ≤ v 48 ∧ v 48 ≤ 255) ∧ ∀ p, p < nP_ T → (0 ≤ v p ∧ v p ≤ b) ∧ (-1 ≤ v (6 + p) ∧ v (6 + p) < T 135 51) ∧ (0 ≤ v (12 + p) ∧ v (12 + p) ≤ 4) ∧ (-1 ≤ v (18 + p) ∧ v (18 + p) < T 135 50) ∧ ∀ s, s < 4 → 0 ≤ v (24 + 4 * p + s) ∧ v (24 + 4 * p + s) ≤ 20
def al_ (T : sp_T) (q : Nat) : Int := su_ (nO_ T) (fun o => T 158 (8 * q + o))
def cs_ (T : sp_T) (v : sp_V) (p : Nat) : Nat := bi_ (nO_ T) (cn_ T v p)
def mo_ (T : sp_T) (v : sp_V) (h : Int) : Nat := ct_ (nP_ T) (fun p => decide (v (12 + p) = h))
theorem sI_at (σ : am_S) (a : Nat) (f : Nat → Int) : (am_sI σ a f).1 a = f := am_up_same _ _ _
theorem sI_ne {σ : am_S} {a b : Nat} {f : Nat → Int} (h : b ≠ a) : (am_sI σ a f).1 b = σ.1 b := am_up_ne h
theorem sI_id (σ : am_S) (a : Nat) : am_sI σ a (σ.1 a) = σ := by
  refine Prod.ext (funext fun b => ?_) rfl
  by_cases h : b = a
  · subst h; exact sI_at _ _ _
  · exact sI_ne h
theorem sI_sI (σ : am_S) (a : Nat) (f g : Nat → Int) : am_sI (am_sI σ a f) a g = am_sI σ a g := by
  refine Prod.ext (funext fun b => ?_) rfl
  by_cases h : b = a
  · subst h; rw [sI_at, sI_at]
  · rw [sI_ne h, sI_ne h, sI_ne h]
theorem de_pos {T : sp_T} (h : FV_ T) : ∀ k, k < nF_ T → 1 ≤ de_ T (k + 1) := by
  intro k hk
  have hf := (h.2.2.2 k hk).2
  show 1 ≤ (if T 140 k = 0 ∨ T 140 k = 1 then de_ T k + 1 else if T 140 k = 2 then de_ T k else de_ T k - 1)
  rcases hf with h0 | ⟨h0, -⟩ | ⟨h0, h1⟩ | ⟨h0, h1, -⟩
  · simp [h0]
  · simp [h0]
  · rw [if_neg (by omega), if_pos h0]; exact h1
  · rw [if_neg (by omega), if_neg (by omega)]; omega
theorem it_1 {b : Bool} (h : (if b then (1 : Int) else 0) = 1) : b = true := by cases b <;> simp_all
theorem it_n1 {b : Bool} (h : ¬ (if b then (1 : Int) else 0) = 1) : b = false := by cases b <;> simp_all
theorem it_0 {b : Bool} (h : (if b then (1 : Int) else 0) = 0) : b = false := by cases b <;> simp_all
theorem it_n0 {b : Bool} (h : ¬ (if b then (1 : Int) else 0) = 0) : b = true := by cases b <;> simp_all
theorem gn_bd (T : sp_T) (ask : Nat → Int) : 0 ≤ gn_ T ask ∧ gn_ T ask ≤ 9 := by
  unfold gn_ cl_
  split
  · omega
  · split
    · omega
    · split <;> omega
theorem VV_.le {T : sp_T} {b b' : Int} {v : sp_V} (h : VV_ T b v) (hb : b ≤ b') : VV_ T b' v := ⟨⟨h.1.1, by have := h.1.2; omega⟩, h.2.1, fun p hp => ⟨⟨((h.2.2 p hp).1).1, by have := ((h.2.2 p hp).1).2; omega⟩, (h.2.2 p hp).2⟩⟩
/-- one place of a row changed: which bounds are to be shown -/
theorem VV_.up {T : sp_T} {b : Int} {v : sp_V} (h : VV_ T b v) {k : Nat} {z : Int} (h49 : k = 49 → 0 ≤ z ∧ z ≤ b) (h48 : k = 48 → 0 ≤ z ∧ z ≤ 255) (h1 : ∀ p, p < nP_ T → k = p → 0 ≤ z ∧ z ≤ b) (h2 : ∀ p, p < nP_ T → k = 6 + p → -1 ≤ z ∧ z < T 135 51) (h3 : ∀ p, p < nP_ T → k = 12 + p → 0 ≤ z ∧ z ≤ 4) (h4 : ∀ p, p < nP_ T → k = 18 + p → -1 ≤ z ∧ z < T 135 50) (h5 : ∀ p s, p < nP_ T → s < 4 → k = 24 + 4 * p + s → 0 ≤ z ∧ z ≤ 20) : VV_ T b (am_up v k z) := by
  have key : ∀ {j : Nat} {lo hi : Int}, (lo ≤ v j ∧ v j ≤ hi) → (k = j → lo ≤ z ∧ z ≤ hi) → lo ≤ am_up v k z j ∧ am_up v k z j ≤ hi := by
    intro j lo hi hv hz
    by_cases q : j = k
    · subst q; rw [am_up_same]; exact hz rfl
    · rw [am_up_ne q]; exact hv
  have key2 : ∀ {j : Nat} {lo hi : Int}, (lo ≤ v j ∧ v j < hi) → (k = j → lo ≤ z ∧ z < hi) → lo ≤ am_up v k z j ∧ am_up v k z j < hi := by
    intro j lo hi hv hz
    by_cases q : j = k
    · subst q; rw [am_up_same]; exact hz rfl
    · rw [am_up_ne q]; exact hv
  exact ⟨key h.1 h49, key h.2.1 h48, fun p hp => ⟨key (h.2.2 p hp).1 (h1 p hp), key2 (h.2.2 p hp).2.1 (h2 p hp), key (h.2.2 p hp).2.2.1 (h3 p hp), key2 (h.2.2 p hp).2.2.2.1 (h4 p hp), fun s hs => key ((h.2.2 p hp).2.2.2.2 s hs) (h5 p s hp hs)⟩⟩
theorem VV_.ln {T : sp_T} {b : Int} {v : sp_V} (h : VV_ T b v) (hV : TV_ T) {p : Nat} (hp : p < nP_ T) {s : Int} (hs : s < T 135 50) : VV_ T b (ln_ T v p s) := by
  unfold ln_
  split
  · exact h
  next q =>
    have h9 := hV.nS
    have h8 := hV.nP
    have hb := (h.2.2 p hp).2.2.2.2 s.toNat (by omega)
    have hg := gn_bd T (ak_ (v (24 + 4 * p + s.toNat)) (v p) (v 49) s.toNat)
    have hl : 0 ≤ lv_n T (v (24 + 4 * p + s.toNat)) (v p) (v 49) s.toNat ∧ lv_n T (v (24 + 4 * p + s.toNat)) (v p) (v 49) s.toNat ≤ 20 := by
      unfold lv_n
      split <;> omega
    exact h.up (by omega) (by omega) (by omega) (by omega) (by omega) (by omega) (fun _ _ _ _ _ => hl)
theorem VV_.op {T : sp_T} {b : Int} {v : sp_V} (h : VV_ T b v) (hV : TV_ T) {p : Nat} (hp : p < nP_ T) : VV_ T b (op_ T v p) := by
  have h8 := hV.nP
  have h7 := hV.nO
  have hw := (h.2.2 p hp).2.1
  unfold op_
  split
  · exact h.up (by omega) (by omega) (by omega) (by omega) (by omega) (by omega) (by omega)
  · split
    · refine (h.up (k := 12 + p) (z := 2) (by omega) (by omega) (by omega) (by omega) (by omega) (by omega) (by omega)).up (by omega) (fun _ => ?_) (by omega) (by omega) (by omega) (by omega) (by omega)
      have h1 := h.2.1
      have h2 : (v 48).toNat ||| 2 ^ (v (6 + p)).toNat < 2 ^ 8 := Nat.or_lt_two_pow (by omega) (Nat.pow_lt_pow_right (by decide) (by omega))
      omega
    · exact h.up (by omega) (by omega) (by omega) (by omega) (by omega) (by omega) (by omega)
theorem ln_ne {T : sp_T} {v : sp_V} {p j : Nat} {s : Int} (h : j < 24 ∨ 48 ≤ j) (hp : p < 6) (hs : s < 4) : ln_ T v p s j = v j := by
  unfold ln_
  split
  · rfl
  · rw [am_up_ne (by omega)]
theorem op_ne {T : sp_T} {v : sp_V} {p j : Nat} (h1 : j ≠ 12 + p) (h2 : j ≠ 48) : op_ T v p j = v j := by
  unfold op_
  split
  · rw [am_up_ne h1]
  · split
    · rw [am_up_ne h2, am_up_ne h1]
    · rw [am_up_ne h1]
/-- the row so far in a YEAR: those behind p are as they were -/
theorem yp_keep {T : sp_T} {p j : Nat} {x : sp_V × Nat} (hV : TV_ T) (h0 : p < 6) (hs : x.1 (18 + p) < 4) (h1 : j ≠ p) (h2 : j ≠ 12 + p) (h3 : j ≠ 48) (h4 : j < 24 + 4 * p ∨ 28 + 4 * p ≤ j) : (yp_ T p x).1 j = x.1 j := by
  have e : ln_ T x.1 p (x.1 (18 + p)) j = x.1 j := by
    unfold ln_
    split
    · rfl
    · rw [am_up_ne (by omega)]
  unfold yp_
  split
  · split
    · show am_up _ p _ j = _
      rw [am_up_ne h1, e]
    · show op_ T _ p j = _
      rw [op_ne h2 h3, am_up_ne h1, e]
  · rfl
theorem VV_.yp {T : sp_T} {b : Int} {x : sp_V × Nat} (h : VV_ T b x.1) (hV : TV_ T) {p : Nat} (hp : p < nP_ T) (hb : x.1 p ≤ b - 1) : VV_ T b (yp_ T p x).1 := by
  have hs := (h.2.2 p hp).2.2.2.1
  have h9 := hV.nS
  have h8 := hV.nP
  have hl := h.ln hV hp hs.2
  have ha := (h.2.2 p hp).1
  have e : ln_ T x.1 p (x.1 (18 + p)) p = x.1 p := ln_ne (by omega) (by omega) (by omega)
  have h2 : VV_ T b (am_up (ln_ T x.1 p (x.1 (18 + p))) p (ln_ T x.1 p (x.1 (18 + p)) p + 1)) := by
    rw [e]
    exact hl.up (by omega) (by omega) (by omega) (by omega) (by omega) (by omega) (by omega)
  unfold yp_
  split
  · split
    · exact h2
    · exact h2.op hV hp
  · exact h
/-- in a YEAR: what holds of the row so far -/
theorem yl_in {T : sp_T} {b : Int} {v : sp_V} (h : VV_ T b v) (hV : TV_ T) : ∀ k, k ≤ nP_ T → VV_ T (b + 1) (yl_ T v k).1 ∧ (yl_ T v k).2 ≤ k ∧ (yl_ T v k).1 49 = v 49 ∧ ∀ p, k ≤ p → p < nP_ T → (yl_ T v k).1 p = v p
  | 0, _ => ⟨h.le (by omega), Nat.le_refl _, rfl, fun _ _ _ => rfl⟩
  | k + 1, hk => by
    obtain ⟨h1, h2, h3, h4⟩ := yl_in h hV k (by omega)
    have h8 := hV.nP
    have h9 := hV.nS
    have hs := (h1.2.2 k (by omega)).2.2.2.1
    have e := h4 k (Nat.le_refl _) (by omega)
    refine ⟨h1.yp hV (by omega) (by rw [e]; have := (h.2.2 k (by omega)).1; omega), ?_, ?_, fun p h5 h6 => ?_⟩
    · show (yp_ T k (yl_ T v k)).2 ≤ k + 1
      unfold yp_
      split
      · split <;> dsimp only <;> omega
      · omega
    · show (yp_ T k (yl_ T v k)).1 49 = _
      rw [yp_keep hV (by omega) (by omega) (by omega) (by omega) (by omega) (by omega), h3]
    · show (yp_ T k (yl_ T v k)).1 p = _
      rw [yp_keep hV (by omega) (by omega) (by omega) (by omega) (by omega) (by omega), h4 p (by omega) h6]
theorem VV_.yr {T : sp_T} {b : Int} {v : sp_V} (h : VV_ T b v) (hV : TV_ T) : VV_ T (b + 1) (yr_ T v) := by
  obtain ⟨h1, h2, h3, h4⟩ := yl_in h hV (nP_ T) (Nat.le_refl _)
  have := hV.nP
  have := h.1
  exact h1.up (by omega) (by omega) (by omega) (by omega) (by omega) (by omega) (by omega)
theorem VV_.ys {T : sp_T} {b : Int} {v : sp_V} (h : VV_ T b v) (hV : TV_ T) : ∀ n : Nat, VV_ T (b + n) (ys_ T v n)
  | 0 => by
    rw [show b + ((0 : Nat) : Int) = b by omega]
    exact h
  | n + 1 => by
    have := (VV_.ys h hV n).yr hV
    rw [show b + ((n + 1 : Nat) : Int) = b + n + 1 by omega]
    exact this
theorem up_up {α : Type} (f : Nat → α) (k : Nat) (a b : α) : am_up (am_up f k a) k b = am_up f k b := by
  funext j
  by_cases h : j = k
  · subst h; rw [am_up_same, am_up_same]
  · rw [am_up_ne h, am_up_ne h, am_up_ne h]
def cp_ (w g : Nat → Int) (k : Nat) : Nat → Int := fun j => if j < k then w j else g j
theorem cp_0 (w g : Nat → Int) : cp_ w g 0 = g := by
  funext j
  unfold cp_
  rw [if_neg (by omega)]
theorem cp_step (w g : Nat → Int) (k : Nat) : am_up (cp_ w g k) k (w k) = cp_ w g (k + 1) := by
  funext j
  unfold cp_
  by_cases h : j = k
  · subst h; rw [am_up_same, if_pos (by omega)]
  · rw [am_up_ne h]
    by_cases h2 : j < k
    · rw [if_pos h2, if_pos (by omega)]
    · rw [if_neg h2, if_neg (by omega)]
theorem cp_at {w g : Nat → Int} {k j : Nat} (h : j < k) : cp_ w g k j = w j := if_pos h
theorem mul_bd {a b A B : Int} (h1 : 0 ≤ a) (h2 : a ≤ A) (h3 : 0 ≤ b) (h4 : b ≤ B) : 0 ≤ a * b ∧ a * b ≤ A * B :=
  ⟨Int.mul_nonneg h1 h3, Int.mul_le_mul h2 h4 h3 (by omega)⟩
theorem am_rem_nat {a b : Nat} (ha : a < 2 ^ 31) (h0 : 0 < b) (hb : b < 2 ^ 31) : am_rem (a : Int) (b : Int) = ((a % b : Nat) : Int) := by
  unfold am_rem
  rw [of_nat32, of_nat32, pk_rem ha h0 hb, nI_toInt (Nat.lt_of_le_of_lt (Nat.mod_le _ _) ha)]
theorem am_div_nat {a b : Nat} (ha : a < 2 ^ 31) (h0 : 0 < b) (hb : b < 2 ^ 31) : am_div (a : Int) (b : Int) = ((a / b : Nat) : Int) := by
  unfold am_div
  rw [of_nat32, of_nat32, pk_div ha h0 hb, nI_toInt (Nat.lt_of_le_of_lt (Nat.div_le_self _ _) ha)]
theorem al_bd {T : sp_T} (hV : TV_ T) {q : Nat} (hq : q < nR_ T) : 0 ≤ al_ T q ∧ al_ T q ≤ 72 := by
  have h := su_bd (f := fun o => T 158 (8 * q + o)) (b := 9) (by omega) (nO_ T) (fun k hk => hV.od hq hk)
  have := hV.nO
  unfold al_
  omega
/-- which ORDER a rest falls in -/
def dq_ (T : sp_T) (q : Nat) : Nat → Nat → Int → Int
  | 0, _, _ => -1
  | m + 1, o, l => if l < T 158 (8 * q + o) then (o : Int) else dq_ T q m (o + 1) (l - T 158 (8 * q + o))
def dr_ (T : sp_T) (q : Nat) (seed : Int) : Int := if al_ T q = 0 then -1 else dq_ T q (nO_ T) 0 (am_rem seed (al_ T q))
def ib_ (T : sp_T) (v : sp_V) (p : Nat) : Bool := if v (12 + p) = 1 then decide (v (6 + p) < 0) else decide (al_ T (pa_ T p) = 0)
def pl_ (T : sp_T) (v : sp_V) (p : Nat) : Int := if ib_ T v p || decide (v (12 + p) = 1) then 1 else al_ T (pa_ T p)
def po_ (T : sp_T) (v : sp_V) (p : Nat) : Int := if ib_ T v p then 1 else if v (12 + p) = 1 then (if cn_ T v p (v (6 + p)).toNat then 1 else 0) else su_ (nO_ T) (fun o => if cn_ T v p o then T 158 (8 * pa_ T p + o) else 0)
def wo_ (T : sp_T) (v : sp_V) (p : Nat) : Int := if ib_ T v p then 1 else if v (12 + p) = 1 then (if cn_ T v p (v (6 + p)).toNat then T 155 (v (6 + p)).toNat else 0) else su_ (nO_ T) (fun o => if cn_ T v p o then T 155 o * T 158 (8 * pa_ T p + o) else 0)
def ho_ (T : sp_T) (v : sp_V) (p l : Nat) : Int := if v (6 + l) < 0 then 1 else if cn_ T v p (v (6 + l)).toNat then T 155 (v (6 + l)).toNat else 0
def yf_ (T : sp_T) (w : sp_V) (p : Nat) : Nat := if 1 < T 135 55 - w p then (T 135 55 - w p).toNat else 1
/-- one prepares alone for a year -/
def ga_ (T : sp_T) (v : sp_V) (p : Nat) (z : Int) : sp_V := am_up (am_up (ln_ T v p z) p (ln_ T v p z p + 1)) 49 (ln_ T v p z 49 + 1)
def ff_ (T : sp_T) (v w : sp_V) : Nat → Nat → Int
  | 0, _ => -1
  | m + 1, p => if v (12 + p) = 3 ∧ ¬ w (12 + p) = 3 then (p : Int) else ff_ T v w m (p + 1)
