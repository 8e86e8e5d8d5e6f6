/-! the class: its places, by the town told (2 or 34) and the play (68 or 70) -/

theorem xg7_0 {t : Nat} {σ : am_S} (h : t = 2 ∨ t = 34) : am_fget σ t 700 = some (am_R (t + 1)) := by rcases h with rfl | rfl <;> rfl

theorem xg7_1 {t : Nat} {σ : am_S} (h : t = 2 ∨ t = 34) : am_fget σ t 701 = some (am_R (t + 2)) := by rcases h with rfl | rfl <;> rfl

theorem xg7_2 {t : Nat} {σ : am_S} (h : t = 2 ∨ t = 34) : am_fget σ t 702 = some (am_R (t + 7)) := by rcases h with rfl | rfl <;> rfl

theorem xg7_3 {t : Nat} {σ : am_S} (h : t = 2 ∨ t = 34) : am_fget σ t 703 = some (am_R (t + 13)) := by rcases h with rfl | rfl <;> rfl

theorem xg7_4 {t : Nat} {σ : am_S} (h : t = 2 ∨ t = 34) : am_fget σ t 704 = some (am_R (t + 14)) := by rcases h with rfl | rfl <;> rfl

theorem xg7_5 {t : Nat} {σ : am_S} (h : t = 2 ∨ t = 34) : am_fget σ t 705 = some (am_R (t + 15)) := by rcases h with rfl | rfl <;> rfl

theorem xg7_6 {t : Nat} {σ : am_S} (h : t = 2 ∨ t = 34) : am_fget σ t 706 = some (am_R (t + 19)) := by rcases h with rfl | rfl <;> rfl

theorem xg7_7 {t : Nat} {σ : am_S} (h : t = 2 ∨ t = 34) : am_fget σ t 707 = some (am_R (t + 20)) := by rcases h with rfl | rfl <;> rfl

theorem xg7_8 {t : Nat} {σ : am_S} (h : t = 2 ∨ t = 34) : am_fget σ t 708 = some (am_R (t + 21)) := by rcases h with rfl | rfl <;> rfl

theorem xg7_9 {t : Nat} {σ : am_S} (h : t = 2 ∨ t = 34) : am_fget σ t 709 = some (am_R (t + 28)) := by rcases h with rfl | rfl <;> rfl

theorem xg7_10 {t : Nat} {σ : am_S} (h : t = 2 ∨ t = 34) : am_fget σ t 710 = some (am_I (σ.1 t 10)) := by rcases h with rfl | rfl <;> rfl

theorem xg7_11 {t : Nat} {σ : am_S} (h : t = 2 ∨ t = 34) : am_fget σ t 711 = some (am_I (σ.1 t 11)) := by rcases h with rfl | rfl <;> rfl

theorem xg0_0 {t : Nat} {σ : am_S} (h : t = 2 ∨ t = 34) : am_fget σ (t + 28) 0 = some (am_R (t + 29)) := by rcases h with rfl | rfl <;> rfl

theorem xg0_1 {t : Nat} {σ : am_S} (h : t = 2 ∨ t = 34) : am_fget σ (t + 28) 1 = some (am_R (t + 30)) := by rcases h with rfl | rfl <;> rfl

theorem xg0_2 {t : Nat} {σ : am_S} (h : t = 2 ∨ t = 34) : am_fget σ (t + 28) 2 = some (am_R (t + 31)) := by rcases h with rfl | rfl <;> rfl

theorem xg0_3 {t : Nat} {σ : am_S} (h : t = 2 ∨ t = 34) : am_fget σ (t + 28) 3 = some (am_I (σ.1 (t + 28) 3)) := by rcases h with rfl | rfl <;> rfl

theorem xg0_4 {t : Nat} {σ : am_S} (h : t = 2 ∨ t = 34) : am_fget σ (t + 28) 4 = some (am_I (σ.1 (t + 28) 4)) := by rcases h with rfl | rfl <;> rfl

theorem kd_0 {t : Nat} (h : t = 2 ∨ t = 34) : am_kd t = (6, 7) := by rcases h with rfl | rfl <;> rfl

theorem kd_1 {t : Nat} (h : t = 2 ∨ t = 34) : am_kd (t + 1) = (0, 5) := by rcases h with rfl | rfl <;> rfl

theorem kd_2 {t : Nat} (h : t = 2 ∨ t = 34) : am_kd (t + 2) = (5, 4) := by rcases h with rfl | rfl <;> rfl

theorem kd_3 {t : Nat} (h : t = 2 ∨ t = 34) : am_kd (t + 3) = (3, 8) := by rcases h with rfl | rfl <;> rfl

theorem kd_4 {t : Nat} (h : t = 2 ∨ t = 34) : am_kd (t + 4) = (3, 8) := by rcases h with rfl | rfl <;> rfl

theorem kd_5 {t : Nat} (h : t = 2 ∨ t = 34) : am_kd (t + 5) = (3, 8) := by rcases h with rfl | rfl <;> rfl

theorem kd_6 {t : Nat} (h : t = 2 ∨ t = 34) : am_kd (t + 6) = (3, 8) := by rcases h with rfl | rfl <;> rfl

theorem kd_7 {t : Nat} (h : t = 2 ∨ t = 34) : am_kd (t + 7) = (4, 5) := by rcases h with rfl | rfl <;> rfl

theorem kd_8 {t : Nat} (h : t = 2 ∨ t = 34) : am_kd (t + 8) = (0, 8) := by rcases h with rfl | rfl <;> rfl

theorem kd_9 {t : Nat} (h : t = 2 ∨ t = 34) : am_kd (t + 9) = (0, 8) := by rcases h with rfl | rfl <;> rfl

theorem kd_10 {t : Nat} (h : t = 2 ∨ t = 34) : am_kd (t + 10) = (0, 8) := by rcases h with rfl | rfl <;> rfl

theorem kd_11 {t : Nat} (h : t = 2 ∨ t = 34) : am_kd (t + 11) = (0, 8) := by rcases h with rfl | rfl <;> rfl

theorem kd_12 {t : Nat} (h : t = 2 ∨ t = 34) : am_kd (t + 12) = (0, 8) := by rcases h with rfl | rfl <;> rfl

theorem kd_13 {t : Nat} (h : t = 2 ∨ t = 34) : am_kd (t + 13) = (0, 8) := by rcases h with rfl | rfl <;> rfl

theorem kd_14 {t : Nat} (h : t = 2 ∨ t = 34) : am_kd (t + 14) = (0, 8) := by rcases h with rfl | rfl <;> rfl

theorem kd_15 {t : Nat} (h : t = 2 ∨ t = 34) : am_kd (t + 15) = (4, 3) := by rcases h with rfl | rfl <;> rfl

theorem kd_16 {t : Nat} (h : t = 2 ∨ t = 34) : am_kd (t + 16) = (0, 8) := by rcases h with rfl | rfl <;> rfl

theorem kd_17 {t : Nat} (h : t = 2 ∨ t = 34) : am_kd (t + 17) = (0, 8) := by rcases h with rfl | rfl <;> rfl

theorem kd_18 {t : Nat} (h : t = 2 ∨ t = 34) : am_kd (t + 18) = (0, 8) := by rcases h with rfl | rfl <;> rfl

theorem kd_19 {t : Nat} (h : t = 2 ∨ t = 34) : am_kd (t + 19) = (0, 6) := by rcases h with rfl | rfl <;> rfl

theorem kd_20 {t : Nat} (h : t = 2 ∨ t = 34) : am_kd (t + 20) = (0, 6) := by rcases h with rfl | rfl <;> rfl

theorem kd_21 {t : Nat} (h : t = 2 ∨ t = 34) : am_kd (t + 21) = (4, 6) := by rcases h with rfl | rfl <;> rfl

theorem kd_28 {t : Nat} (h : t = 2 ∨ t = 34) : am_kd (t + 28) = (6, 0) := by rcases h with rfl | rfl <;> rfl

theorem kd_29 {t : Nat} (h : t = 2 ∨ t = 34) : am_kd (t + 29) = (0, 300) := by rcases h with rfl | rfl <;> rfl

theorem kd_30 {t : Nat} (h : t = 2 ∨ t = 34) : am_kd (t + 30) = (0, 300) := by rcases h with rfl | rfl <;> rfl

theorem kd_31 {t : Nat} (h : t = 2 ∨ t = 34) : am_kd (t + 31) = (0, 30) := by rcases h with rfl | rfl <;> rfl

theorem kd_sh {t r : Nat} (h : t = 2 ∨ t = 34) (hr : r < 3) : am_kd (t + 16 + r) = (0, 8) := by rcases (by omega : r = 0 ∨ r = 1 ∨ r = 2) with rfl | rfl | rfl <;> rcases h with rfl | rfl <;> rfl

theorem kd_lv {t r : Nat} (h : t = 2 ∨ t = 34) (hr : r < 6) : am_kd (t + 22 + r) = (0, 4) := by rcases (by omega : r = 0 ∨ r = 1 ∨ r = 2 ∨ r = 3 ∨ r = 4 ∨ r = 5) with rfl | rfl | rfl | rfl | rfl | rfl <;> rcases h with rfl | rfl <;> rfl

theorem xg2_0 {q : Nat} {σ : am_S} (h : q = 68 ∨ q = 70) : am_fget σ q 200 = some (am_R (q + 1)) := by rcases h with rfl | rfl <;> rfl

theorem xg2_1 {q : Nat} {σ : am_S} (h : q = 68 ∨ q = 70) : am_fget σ q 201 = some (am_q (σ.2.2.1 q 1)) := by rcases h with rfl | rfl <;> rfl

theorem xg2_2 {q : Nat} {σ : am_S} (h : q = 68 ∨ q = 70) : am_fget σ q 202 = some (am_I (σ.1 q 2)) := by rcases h with rfl | rfl <;> rfl

theorem kd_q {q : Nat} (h : q = 68 ∨ q = 70) : am_kd q = (6, 2) := by rcases h with rfl | rfl <;> rfl

theorem kd_q1 {q : Nat} (h : q = 68 ∨ q = 70) : am_kd (q + 1) = (0, 49) := by rcases h with rfl | rfl <;> rfl

theorem xp7_10 {t : Nat} {σ : am_S} (h : t = 2 ∨ t = 34) {z : Int} : am_fput σ t 710 (am_I z) = some (am_sI σ t (am_up (σ.1 t) 10 z)) := by rcases h with rfl | rfl <;> rfl

theorem xp7_11 {t : Nat} {σ : am_S} (h : t = 2 ∨ t = 34) {z : Int} : am_fput σ t 711 (am_I z) = some (am_sI σ t (am_up (σ.1 t) 11 z)) := by rcases h with rfl | rfl <;> rfl

theorem xp0_3 {t : Nat} {σ : am_S} (h : t = 2 ∨ t = 34) {z : Int} : am_fput σ (t + 28) 3 (am_I z) = some (am_sI σ (t + 28) (am_up (σ.1 (t + 28)) 3 z)) := by rcases h with rfl | rfl <;> rfl

theorem xp0_4 {t : Nat} {σ : am_S} (h : t = 2 ∨ t = 34) {z : Int} : am_fput σ (t + 28) 4 (am_I z) = some (am_sI σ (t + 28) (am_up (σ.1 (t + 28)) 4 z)) := by rcases h with rfl | rfl <;> rfl

theorem xp2_2 {q : Nat} {σ : am_S} (h : q = 68 ∨ q = 70) {z : Int} : am_fput σ q 202 (am_I z) = some (am_sI σ q (am_up (σ.1 q) 2 z)) := by rcases h with rfl | rfl <;> rfl

theorem xp2_1 {q : Nat} {σ : am_S} (h : q = 68 ∨ q = 70) {z : Nat} : am_fput σ q 201 (am_R z) = some (am_sR σ q (am_up (σ.2.2.1 q) 1 (some z))) := by rcases h with rfl | rfl <;> rfl

/-- how the class names a step of the formula -/
def fk_ (s a : Int) : Int := if s = 0 then 101 else if s = 1 then (if a = 0 then 18 else if a = 1 then 10 else if a = 2 then 19 else 20) else if s = 2 then 17 else if a = 38 then 16 else if a = 124 then 15 else a
/-- the class's town at t tells T -/
def XT_ (t : Nat) (T : sp_T) (σ : am_S) : Prop :=
  (t = 2 ∨ t = 34) ∧ (σ.1 (t + 1) 0 = T 135 53) ∧ (σ.1 (t + 1) 1 = T 135 50) ∧ (σ.1 (t + 1) 2 = T 135 51) ∧ (σ.1 (t + 1) 3 = T 135 52) ∧ (σ.1 (t + 1) 4 = T 135 54) ∧ (∀ o, o < nO_ T → σ.1 (t + 8) o = T 151 o) ∧ (∀ o, o < nO_ T → σ.1 (t + 9) o = T 152 o) ∧ (∀ o, o < nO_ T → σ.1 (t + 10) o = T 153 o) ∧ (∀ o, o < nO_ T → σ.1 (t + 11) o = T 154 o) ∧ (∀ o, o < nO_ T → σ.1 (t + 12) o = T 155 o) ∧ (∀ o, o < nO_ T → σ.1 (t + 13) o = T 156 o) ∧ (∀ o, o < nO_ T → σ.1 (t + 14) o = ((bi_ (nO_ T) (fun u => tb_ (T 156 u) o) : Nat) : Int)) ∧ (∀ r o, r < nR_ T → o < nO_ T → r < 3 ∧ σ.1 (t + 16 + r) o = T 158 (8 * r + o)) ∧ (∀ p, p < nP_ T → σ.1 (t + 19) p = T 162 p) ∧ (σ.1 t 10 = T 135 55) ∧ (σ.1 (t + 28) 3 = T 135 18) ∧ (σ.1 (t + 28) 4 = T 135 21) ∧ (∀ k, k < nF_ T → σ.1 (t + 29) k = fk_ (T 140 k) (T 141 k)) ∧ (∀ k, k < nF_ T → T 140 k = 0 → σ.1 (t + 30) k = T 141 k)
theorem XT_.ht {t : Nat} {T : sp_T} {σ : am_S} (h : XT_ t T σ) : t = 2 ∨ t = 34 := h.1
theorem XT_.c0 {t : Nat} {T : sp_T} {σ : am_S} (h : XT_ t T σ) : σ.1 (t + 1) 0 = T 135 53 := h.2.1
theorem XT_.c1 {t : Nat} {T : sp_T} {σ : am_S} (h : XT_ t T σ) : σ.1 (t + 1) 1 = T 135 50 := h.2.2.1
theorem XT_.c2 {t : Nat} {T : sp_T} {σ : am_S} (h : XT_ t T σ) : σ.1 (t + 1) 2 = T 135 51 := h.2.2.2.1
theorem XT_.c3 {t : Nat} {T : sp_T} {σ : am_S} (h : XT_ t T σ) : σ.1 (t + 1) 3 = T 135 52 := h.2.2.2.2.1
theorem XT_.c4 {t : Nat} {T : sp_T} {σ : am_S} (h : XT_ t T σ) : σ.1 (t + 1) 4 = T 135 54 := h.2.2.2.2.2.1
theorem XT_.ask {t : Nat} {T : sp_T} {σ : am_S} (h : XT_ t T σ) : ∀ o, o < nO_ T → σ.1 (t + 8) o = T 151 o := h.2.2.2.2.2.2.1
theorem XT_.lvl {t : Nat} {T : sp_T} {σ : am_S} (h : XT_ t T σ) : ∀ o, o < nO_ T → σ.1 (t + 9) o = T 152 o := h.2.2.2.2.2.2.2.1
theorem XT_.sea {t : Nat} {T : sp_T} {σ : am_S} (h : XT_ t T σ) : ∀ o, o < nO_ T → σ.1 (t + 10) o = T 153 o := h.2.2.2.2.2.2.2.2.1
theorem XT_.wei {t : Nat} {T : sp_T} {σ : am_S} (h : XT_ t T σ) : ∀ o, o < nO_ T → σ.1 (t + 11) o = T 154 o := h.2.2.2.2.2.2.2.2.2.1
theorem XT_.wor {t : Nat} {T : sp_T} {σ : am_S} (h : XT_ t T σ) : ∀ o, o < nO_ T → σ.1 (t + 12) o = T 155 o := h.2.2.2.2.2.2.2.2.2.2.1
theorem XT_.und {t : Nat} {T : sp_T} {σ : am_S} (h : XT_ t T σ) : ∀ o, o < nO_ T → σ.1 (t + 13) o = T 156 o := h.2.2.2.2.2.2.2.2.2.2.2.1
theorem XT_.unr {t : Nat} {T : sp_T} {σ : am_S} (h : XT_ t T σ) : ∀ o, o < nO_ T → σ.1 (t + 14) o = ((bi_ (nO_ T) (fun u => tb_ (T 156 u) o) : Nat) : Int) := h.2.2.2.2.2.2.2.2.2.2.2.2.1
theorem XT_.sha' {t : Nat} {T : sp_T} {σ : am_S} (h : XT_ t T σ) : ∀ r o, r < nR_ T → o < nO_ T → r < 3 ∧ σ.1 (t + 16 + r) o = T 158 (8 * r + o) := h.2.2.2.2.2.2.2.2.2.2.2.2.2.1
theorem XT_.par {t : Nat} {T : sp_T} {σ : am_S} (h : XT_ t T σ) : ∀ p, p < nP_ T → σ.1 (t + 19) p = T 162 p := h.2.2.2.2.2.2.2.2.2.2.2.2.2.2.1
theorem XT_.opa {t : Nat} {T : sp_T} {σ : am_S} (h : XT_ t T σ) : σ.1 t 10 = T 135 55 := h.2.2.2.2.2.2.2.2.2.2.2.2.2.2.2.1
theorem XT_.len {t : Nat} {T : sp_T} {σ : am_S} (h : XT_ t T σ) : σ.1 (t + 28) 3 = T 135 18 := h.2.2.2.2.2.2.2.2.2.2.2.2.2.2.2.2.1
theorem XT_.uni {t : Nat} {T : sp_T} {σ : am_S} (h : XT_ t T σ) : σ.1 (t + 28) 4 = T 135 21 := h.2.2.2.2.2.2.2.2.2.2.2.2.2.2.2.2.2.1
theorem XT_.stp {t : Nat} {T : sp_T} {σ : am_S} (h : XT_ t T σ) : ∀ k, k < nF_ T → σ.1 (t + 29) k = fk_ (T 140 k) (T 141 k) := h.2.2.2.2.2.2.2.2.2.2.2.2.2.2.2.2.2.2.1
theorem XT_.num {t : Nat} {T : sp_T} {σ : am_S} (h : XT_ t T σ) : ∀ k, k < nF_ T → T 140 k = 0 → σ.1 (t + 30) k = T 141 k := h.2.2.2.2.2.2.2.2.2.2.2.2.2.2.2.2.2.2.2
theorem XT_.fr {t : Nat} {T : sp_T} {σ σ' : am_S} (h : XT_ t T σ) (hf : ∀ a, t ≤ a → a ≤ t + 30 → σ'.1 a = σ.1 a) : XT_ t T σ' := by
  obtain ⟨h1, h2, h3, h4, h5, h6, h7, h8, h9, h10, h11, h12, h13, h14, h15, h16, h17, h18, h19, h20⟩ := h
  refine ⟨h1, ?_, ?_, ?_, ?_, ?_, ?_, ?_, ?_, ?_, ?_, ?_, ?_, ?_, ?_, ?_, ?_, ?_, ?_, ?_⟩
  · rw [hf _ (by omega) (by omega)]; exact h2
  · rw [hf _ (by omega) (by omega)]; exact h3
  · rw [hf _ (by omega) (by omega)]; exact h4
  · rw [hf _ (by omega) (by omega)]; exact h5
  · rw [hf _ (by omega) (by omega)]; exact h6
  · rw [hf _ (by omega) (by omega)]; exact h7
  · rw [hf _ (by omega) (by omega)]; exact h8
  · rw [hf _ (by omega) (by omega)]; exact h9
  · rw [hf _ (by omega) (by omega)]; exact h10
  · rw [hf _ (by omega) (by omega)]; exact h11
  · rw [hf _ (by omega) (by omega)]; exact h12
  · rw [hf _ (by omega) (by omega)]; exact h13
  · intro r o hr ho
    obtain ⟨ha, hb⟩ := h14 r o hr ho
    rw [hf _ (by omega) (by omega)]
    exact ⟨ha, hb⟩
  · rw [hf _ (by omega) (by omega)]; exact h15
  · rw [hf _ (by omega) (by omega)]; exact h16
  · rw [hf _ (by omega) (by omega)]; exact h17
  · rw [hf _ (by omega) (by omega)]; exact h18
  · rw [hf _ (by omega) (by omega)]; exact h19
  · rw [hf _ (by omega) (by omega)]; exact h20

theorem XT_.sha {t : Nat} {T : sp_T} {σ : am_S} (h : XT_ t T σ) (r o : Nat) (hr : r < nR_ T) (ho : o < nO_ T) : σ.1 (t + 16 + r) o = T 158 (8 * r + o) := (h.sha' r o hr ho).2
/-- the class's row x is the row v -/
def RW_x (T : sp_T) (v : sp_V) (x : Nat → Int) : Prop :=
  (x 48 = v 49) ∧ (∀ p, p < nP_ T → x p = v p) ∧ (∀ p, p < nP_ T → x (6 + p) = v (12 + p)) ∧ (∀ p, p < nP_ T → x (12 + p) = v (18 + p)) ∧ (∀ p, p < nP_ T → x (18 + p) = v (6 + p)) ∧ (∀ p s, p < nP_ T → s < 4 → x (24 + 4 * p + s) = v (24 + 4 * p + s))
theorem RW_x.yr {T : sp_T} {v : sp_V} {x : Nat → Int} (h : RW_x T v x) : x 48 = v 49 := h.1
theorem RW_x.ag {T : sp_T} {v : sp_V} {x : Nat → Int} (h : RW_x T v x) : ∀ p, p < nP_ T → x p = v p := h.2.1
theorem RW_x.hw {T : sp_T} {v : sp_V} {x : Nat → Int} (h : RW_x T v x) : ∀ p, p < nP_ T → x (6 + p) = v (12 + p) := h.2.2.1
theorem RW_x.pr {T : sp_T} {v : sp_V} {x : Nat → Int} (h : RW_x T v x) : ∀ p, p < nP_ T → x (12 + p) = v (18 + p) := h.2.2.2.1
theorem RW_x.hd {T : sp_T} {v : sp_V} {x : Nat → Int} (h : RW_x T v x) : ∀ p, p < nP_ T → x (18 + p) = v (6 + p) := h.2.2.2.2.1
theorem RW_x.lv {T : sp_T} {v : sp_V} {x : Nat → Int} (h : RW_x T v x) : ∀ p s, p < nP_ T → s < 4 → x (24 + 4 * p + s) = v (24 + 4 * p + s) := h.2.2.2.2.2
/-- a play: its town and its row -/
def PL_ (q t : Nat) (T : sp_T) (v : sp_V) (σ : am_S) : Prop :=
  (q = 68 ∨ q = 70) ∧ (σ.2.2.1 q 1 = some t) ∧ (XT_ t T σ) ∧ (RW_x T v (σ.1 (q + 1)))
theorem PL_.hq {q t : Nat} {T : sp_T} {v : sp_V} {σ : am_S} (h : PL_ q t T v σ) : q = 68 ∨ q = 70 := h.1
theorem PL_.to {q t : Nat} {T : sp_T} {v : sp_V} {σ : am_S} (h : PL_ q t T v σ) : σ.2.2.1 q 1 = some t := h.2.1
theorem PL_.xt {q t : Nat} {T : sp_T} {v : sp_V} {σ : am_S} (h : PL_ q t T v σ) : XT_ t T σ := h.2.2.1
theorem PL_.rw {q t : Nat} {T : sp_T} {v : sp_V} {σ : am_S} (h : PL_ q t T v σ) : RW_x T v (σ.1 (q + 1)) := h.2.2.2
theorem PL_.ht {q t : Nat} {T : sp_T} {v : sp_V} {σ : am_S} (h : PL_ q t T v σ) : t = 2 ∨ t = 34 := h.xt.ht
theorem PL_.fr {q t : Nat} {T : sp_T} {v : sp_V} {σ σ' : am_S} (h : PL_ q t T v σ) {l : List Nat} (hf : fr_ l σ σ') (hl : ∀ a, a ∈ l → (a < t ∨ t + 30 < a) ∧ a ≠ q + 1) : PL_ q t T v σ' :=
  ⟨h.hq, by rw [hf.2]; exact h.to, h.xt.fr (fun a h1 h2 => hf.1 a (fun w => by have := (hl a w).1; omega)), by rw [hf.1 (q + 1) (fun w => (hl _ w).2 rfl)]; exact h.rw⟩

theorem x_has0 {d : Nat} (hd : 1 ≤ d) {σ : am_S} {t : Nat} {T : sp_T} (hX : XT_ t T σ) (hV : TV_ T) {a : Int} {Q : Option am_V → am_S → Prop} (hQ : Q (some (am_I (if 0 ≤ a ∧ a < (nP_ T : Nat) then 1 else 0))) σ) : am_Ev d 88 [am_R t, am_I 0, am_I a] σ Q := by
  obtain ⟨d, rfl⟩ : ∃ e, d = e + 1 := ⟨d - 1, by omega⟩
  refine ev_in (m := 88) (c := k_X7_has) (L := [some (am_R t), some (am_I 0), some (am_I a)]) rfl rfl rfl rfl rfl rfl ?_
  refine ax_load (q := 1) rfl rfl rfl rfl rfl ?_
  refine ax_if_lt (q := 4) (x := 18) rfl rfl (fun h1 => ?_) (fun h1 => ?_)
  · refine ax_const (q := 19) (v := am_I 0) rfl rfl rfl ?_
    refine ax_ret (r := some (am_I 0)) rfl ⟨rfl, Or.inl rfl⟩ ?_
    rw [if_neg (by omega)] at hQ
    exact hQ
  · refine ax_load (q := 5) rfl rfl rfl rfl rfl ?_
    refine ax_load (q := 6) rfl rfl rfl rfl rfl ?_
    refine ax_getf (q := 9) (v := am_R (t + 1)) rfl rfl (xg7_0 hX.ht) ?_
    refine ax_load (q := 10) rfl rfl rfl rfl rfl ?_
    refine bx_iald (q := 11) (k := 0) (z := (((nP_ T) : Nat) : Int)) rfl rfl (kd_1 hX.ht) (by omega) (by omega) (hX.c0.trans hV.nP.1) ?_
    refine ax_icmp_ge (q := 14) (x := 18) rfl rfl (fun h11 => ?_) (fun h11 => ?_)
    · refine ax_const (q := 19) (v := am_I 0) rfl rfl rfl ?_
      refine ax_ret (r := some (am_I 0)) rfl ⟨rfl, Or.inl rfl⟩ ?_
      rw [if_neg (by omega)] at hQ
      exact hQ
    · refine ax_const (q := 15) (v := am_I 1) rfl rfl rfl ?_
      refine ax_goto (x := 19) rfl ?_
      refine ax_ret (r := some (am_I 1)) rfl ⟨rfl, Or.inr rfl⟩ ?_
      rw [if_pos (by omega)] at hQ
      exact hQ

theorem x_has1 {d : Nat} (hd : 1 ≤ d) {σ : am_S} {t : Nat} {T : sp_T} (hX : XT_ t T σ) (hV : TV_ T) {a : Int} {Q : Option am_V → am_S → Prop} (hQ : Q (some (am_I (if 0 ≤ a ∧ a < (nS_ T : Nat) then 1 else 0))) σ) : am_Ev d 88 [am_R t, am_I 1, am_I a] σ Q := by
  obtain ⟨d, rfl⟩ : ∃ e, d = e + 1 := ⟨d - 1, by omega⟩
  refine ev_in (m := 88) (c := k_X7_has) (L := [some (am_R t), some (am_I 1), some (am_I a)]) rfl rfl rfl rfl rfl rfl ?_
  refine ax_load (q := 1) rfl rfl rfl rfl rfl ?_
  refine ax_if_lt (q := 4) (x := 18) rfl rfl (fun h1 => ?_) (fun h1 => ?_)
  · refine ax_const (q := 19) (v := am_I 0) rfl rfl rfl ?_
    refine ax_ret (r := some (am_I 0)) rfl ⟨rfl, Or.inl rfl⟩ ?_
    rw [if_neg (by omega)] at hQ
    exact hQ
  · refine ax_load (q := 5) rfl rfl rfl rfl rfl ?_
    refine ax_load (q := 6) rfl rfl rfl rfl rfl ?_
    refine ax_getf (q := 9) (v := am_R (t + 1)) rfl rfl (xg7_0 hX.ht) ?_
    refine ax_load (q := 10) rfl rfl rfl rfl rfl ?_
    refine bx_iald (q := 11) (k := 1) (z := (((nS_ T) : Nat) : Int)) rfl rfl (kd_1 hX.ht) (by omega) (by omega) (hX.c1.trans hV.nS.1) ?_
    refine ax_icmp_ge (q := 14) (x := 18) rfl rfl (fun h11 => ?_) (fun h11 => ?_)
    · refine ax_const (q := 19) (v := am_I 0) rfl rfl rfl ?_
      refine ax_ret (r := some (am_I 0)) rfl ⟨rfl, Or.inl rfl⟩ ?_
      rw [if_neg (by omega)] at hQ
      exact hQ
    · refine ax_const (q := 15) (v := am_I 1) rfl rfl rfl ?_
      refine ax_goto (x := 19) rfl ?_
      refine ax_ret (r := some (am_I 1)) rfl ⟨rfl, Or.inr rfl⟩ ?_
      rw [if_pos (by omega)] at hQ
      exact hQ

theorem x_has2 {d : Nat} (hd : 1 ≤ d) {σ : am_S} {t : Nat} {T : sp_T} (hX : XT_ t T σ) (hV : TV_ T) {a : Int} {Q : Option am_V → am_S → Prop} (hQ : Q (some (am_I (if 0 ≤ a ∧ a < (nO_ T : Nat) then 1 else 0))) σ) : am_Ev d 88 [am_R t, am_I 2, am_I a] σ Q := by
  obtain ⟨d, rfl⟩ : ∃ e, d = e + 1 := ⟨d - 1, by omega⟩
  refine ev_in (m := 88) (c := k_X7_has) (L := [some (am_R t), some (am_I 2), some (am_I a)]) rfl rfl rfl rfl rfl rfl ?_
  refine ax_load (q := 1) rfl rfl rfl rfl rfl ?_
  refine ax_if_lt (q := 4) (x := 18) rfl rfl (fun h1 => ?_) (fun h1 => ?_)
  · refine ax_const (q := 19) (v := am_I 0) rfl rfl rfl ?_
    refine ax_ret (r := some (am_I 0)) rfl ⟨rfl, Or.inl rfl⟩ ?_
    rw [if_neg (by omega)] at hQ
    exact hQ
  · refine ax_load (q := 5) rfl rfl rfl rfl rfl ?_
    refine ax_load (q := 6) rfl rfl rfl rfl rfl ?_
    refine ax_getf (q := 9) (v := am_R (t + 1)) rfl rfl (xg7_0 hX.ht) ?_
    refine ax_load (q := 10) rfl rfl rfl rfl rfl ?_
    refine bx_iald (q := 11) (k := 2) (z := (((nO_ T) : Nat) : Int)) rfl rfl (kd_1 hX.ht) (by omega) (by omega) (hX.c2.trans hV.nO.1) ?_
    refine ax_icmp_ge (q := 14) (x := 18) rfl rfl (fun h11 => ?_) (fun h11 => ?_)
    · refine ax_const (q := 19) (v := am_I 0) rfl rfl rfl ?_
      refine ax_ret (r := some (am_I 0)) rfl ⟨rfl, Or.inl rfl⟩ ?_
      rw [if_neg (by omega)] at hQ
      exact hQ
    · refine ax_const (q := 15) (v := am_I 1) rfl rfl rfl ?_
      refine ax_goto (x := 19) rfl ?_
      refine ax_ret (r := some (am_I 1)) rfl ⟨rfl, Or.inr rfl⟩ ?_
      rw [if_pos (by omega)] at hQ
      exact hQ

theorem x_has3 {d : Nat} (hd : 1 ≤ d) {σ : am_S} {t : Nat} {T : sp_T} (hX : XT_ t T σ) (hV : TV_ T) {a : Int} {Q : Option am_V → am_S → Prop} (hQ : Q (some (am_I (if 0 ≤ a ∧ a < (nR_ T : Nat) then 1 else 0))) σ) : am_Ev d 88 [am_R t, am_I 3, am_I a] σ Q := by
  obtain ⟨d, rfl⟩ : ∃ e, d = e + 1 := ⟨d - 1, by omega⟩
  refine ev_in (m := 88) (c := k_X7_has) (L := [some (am_R t), some (am_I 3), some (am_I a)]) rfl rfl rfl rfl rfl rfl ?_
  refine ax_load (q := 1) rfl rfl rfl rfl rfl ?_
  refine ax_if_lt (q := 4) (x := 18) rfl rfl (fun h1 => ?_) (fun h1 => ?_)
  · refine ax_const (q := 19) (v := am_I 0) rfl rfl rfl ?_
    refine ax_ret (r := some (am_I 0)) rfl ⟨rfl, Or.inl rfl⟩ ?_
    rw [if_neg (by omega)] at hQ
    exact hQ
  · refine ax_load (q := 5) rfl rfl rfl rfl rfl ?_
    refine ax_load (q := 6) rfl rfl rfl rfl rfl ?_
    refine ax_getf (q := 9) (v := am_R (t + 1)) rfl rfl (xg7_0 hX.ht) ?_
    refine ax_load (q := 10) rfl rfl rfl rfl rfl ?_
    refine bx_iald (q := 11) (k := 3) (z := (((nR_ T) : Nat) : Int)) rfl rfl (kd_1 hX.ht) (by omega) (by omega) (hX.c3.trans hV.nR.1) ?_
    refine ax_icmp_ge (q := 14) (x := 18) rfl rfl (fun h11 => ?_) (fun h11 => ?_)
    · refine ax_const (q := 19) (v := am_I 0) rfl rfl rfl ?_
      refine ax_ret (r := some (am_I 0)) rfl ⟨rfl, Or.inl rfl⟩ ?_
      rw [if_neg (by omega)] at hQ
      exact hQ
    · refine ax_const (q := 15) (v := am_I 1) rfl rfl rfl ?_
      refine ax_goto (x := 19) rfl ?_
      refine ax_ret (r := some (am_I 1)) rfl ⟨rfl, Or.inr rfl⟩ ?_
      rw [if_pos (by omega)] at hQ
      exact hQ

theorem x_sharesOf {d : Nat} (hd : 1 ≤ d) {σ : am_S} {t : Nat} {T : sp_T} (hX : XT_ t T σ) (hV : TV_ T) {p : Nat} (hp : p < nP_ T) {Q : Option am_V → am_S → Prop} (hQ : Q (some (am_R (t + 16 + pa_ T p))) σ) : am_Ev d 89 [am_R t, am_I ((p : Nat) : Int)] σ Q := by
  obtain ⟨d, rfl⟩ : ∃ e, d = e + 1 := ⟨d - 1, by omega⟩
  have h6 := hV.nP
  have hpa := hV.pa hp
  refine ev_in (m := 89) (c := k_X7_sharesOf) (L := [some (am_R t), some (am_I ((p : Nat) : Int))]) rfl rfl rfl rfl rfl rfl ?_
  refine ax_load (q := 1) rfl rfl rfl rfl rfl ?_
  refine ax_getf (q := 4) (v := am_R (t + 15)) rfl rfl (xg7_5 hX.ht) ?_
  refine ax_load (q := 5) rfl rfl rfl rfl rfl ?_
  refine ax_getf (q := 8) (v := am_R (t + 19)) rfl rfl (xg7_6 hX.ht) ?_
  refine ax_load (q := 9) rfl rfl rfl rfl rfl ?_
  refine bx_iald (q := 10) (k := p) (z := (((pa_ T p) : Nat) : Int)) rfl rfl (kd_19 hX.ht) (by omega) (by omega) ((hX.par _ (by omega)).trans (hV.pa (by omega)).1) ?_
  refine bx_aald (q := 11) (k := (pa_ T p)) (z := t + 16 + (pa_ T p)) rfl rfl (Or.inl (kd_15 hX.ht)) (by omega) (by omega) (by omega) ?_
  refine ax_ret (r := some (am_R (t + 16 + (pa_ T p)))) rfl rfl ?_
  exact hQ

theorem xl_allShares {d : Nat} (hd : 0 ≤ d) {σ : am_S} {t : Nat} {T : sp_T} (hX : XT_ t T σ) (hV : TV_ T) {p : Nat} (hp : p < nP_ T) {Q : Option am_V → am_S → Prop} (hQ : Q (some (am_I (al_ T (pa_ T p)))) σ) : ∀ (m k : Nat), k + m = nO_ T → aW d 0 k_X7_allShares Q 11 [some (am_R t), some (am_I ((p : Nat) : Int)), some (am_R (t + 16 + (pa_ T p))), some (am_I (su_ k (fun o => T 158 (8 * pa_ T p + o)))), some (am_I ((k : Nat) : Int))] [] σ := by
  have hO := hV.nO
  have hpa := hV.pa hp
  intro m
  induction m with
  | zero =>
    intro k hk
    obtain rfl : k = nO_ T := by omega
    refine ax_load (q := 13) rfl rfl rfl rfl rfl ?_
    refine ax_load (q := 14) rfl rfl rfl rfl rfl ?_
    refine ax_getf (q := 17) (v := am_R (t + 1)) rfl rfl (xg7_0 hX.ht) ?_
    refine ax_const (q := 18) (v := am_I 2) rfl rfl rfl ?_
    refine bx_iald (q := 19) (k := 2) (z := (((nO_ T) : Nat) : Int)) rfl rfl (kd_1 hX.ht) (by omega) (by omega) (hX.c2.trans hV.nO.1) ?_
    refine ax_icmp_ge (q := 22) (x := 35) rfl rfl (fun h19 => ?_) (fun h => absurd h (by omega))
    refine ax_load (q := 36) rfl rfl rfl rfl rfl ?_
    refine ax_ret (r := some (am_I (su_ (nO_ T) (fun o => T 158 (8 * pa_ T p + o))))) rfl rfl ?_
    exact hQ
  | succ m ih =>
    intro k hk
    have hb := su_bd (f := fun o => T 158 (8 * pa_ T p + o)) (b := 9) (by omega) (k + 1) (fun j hj => hV.od hpa.2.1 (by omega))
    refine ax_load (q := 13) rfl rfl rfl rfl rfl ?_
    refine ax_load (q := 14) rfl rfl rfl rfl rfl ?_
    refine ax_getf (q := 17) (v := am_R (t + 1)) rfl rfl (xg7_0 hX.ht) ?_
    refine ax_const (q := 18) (v := am_I 2) rfl rfl rfl ?_
    refine bx_iald (q := 19) (k := 2) (z := (((nO_ T) : Nat) : Int)) rfl rfl (kd_1 hX.ht) (by omega) (by omega) (hX.c2.trans hV.nO.1) ?_
    refine ax_icmp_ge (q := 22) (x := 35) rfl rfl (fun h => absurd h (by omega)) (fun h19 => ?_)
    refine ax_load (q := 23) rfl rfl rfl rfl rfl ?_
    refine ax_load (q := 24) rfl rfl rfl rfl rfl ?_
    refine ax_load (q := 26) rfl rfl rfl rfl rfl ?_
    refine bx_iald (q := 27) (k := k) (z := T 158 (8 * (pa_ T p) + k)) rfl rfl (kd_sh hX.ht (by omega)) (by omega) (by omega) (hX.sha _ _ (by omega) (by omega)) ?_
    refine ax_iadd (q := 28) (z := su_ (k + 1) (fun o => T 158 (8 * pa_ T p + o))) rfl rfl (am_we rfl (by omega) (by omega)) ?_
    refine ax_store (q := 29) (L' := [some (am_R t), some (am_I ((p : Nat) : Int)), some (am_R (t + 16 + (pa_ T p))), some (am_I (su_ (k + 1) (fun o => T 158 (8 * pa_ T p + o)))), some (am_I ((k : Nat) : Int))]) rfl rfl rfl rfl rfl rfl ?_
    refine ax_iinc (q := 32) (z' := ((k + 1 : Nat) : Int)) (L' := [some (am_R t), some (am_I ((p : Nat) : Int)), some (am_R (t + 16 + (pa_ T p))), some (am_I (su_ (k + 1) (fun o => T 158 (8 * pa_ T p + o)))), some (am_I ((k + 1 : Nat) : Int))]) rfl rfl rfl rfl (am_we (by omega) (by omega) (by omega)) rfl ?_
    refine ax_goto (x := 11) rfl ?_
    exact ih (k + 1) (by omega)

theorem x_allShares {d : Nat} (hd : 2 ≤ d) {σ : am_S} {t : Nat} {T : sp_T} (hX : XT_ t T σ) (hV : TV_ T) {p : Nat} (hp : p < nP_ T) {Q : Option am_V → am_S → Prop} (hQ : Q (some (am_I (al_ T (pa_ T p)))) σ) : am_Ev d 90 [am_R t, am_I ((p : Nat) : Int)] σ Q := by
  obtain ⟨d, rfl⟩ : ∃ e, d = e + 1 := ⟨d - 1, by omega⟩
  have hpa := hV.pa hp
  refine ev_in (m := 90) (c := k_X7_allShares) (L := [some (am_R t), some (am_I ((p : Nat) : Int)), none, none, none]) rfl rfl rfl rfl rfl rfl ?_
  refine ax_load (q := 1) rfl rfl rfl rfl rfl ?_
  refine ax_load (q := 2) rfl rfl rfl rfl rfl ?_
  refine ax_callv (q := 5) rfl rfl rfl rfl rfl (kd_0 hX.ht) ?_
  refine x_sharesOf (by omega) hX hV hp ?_
  refine ax_store (q := 6) (L' := [some (am_R t), some (am_I ((p : Nat) : Int)), some (am_R (t + 16 + (pa_ T p))), none, none]) rfl rfl rfl rfl rfl rfl ?_
  refine ax_const (q := 7) (v := am_I 0) rfl rfl rfl ?_
  refine ax_store (q := 8) (L' := [some (am_R t), some (am_I ((p : Nat) : Int)), some (am_R (t + 16 + (pa_ T p))), some (am_I 0), none]) rfl rfl rfl rfl rfl rfl ?_
  refine ax_const (q := 9) (v := am_I 0) rfl rfl rfl ?_
  refine ax_store (q := 11) (L' := [some (am_R t), some (am_I ((p : Nat) : Int)), some (am_R (t + 16 + (pa_ T p))), some (am_I 0), some (am_I 0)]) rfl rfl rfl rfl rfl rfl ?_
  exact xl_allShares (by omega) hX hV hp hQ (nO_ T) 0 (by omega)

