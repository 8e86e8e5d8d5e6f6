/-! the calls' answers, of the town and the row of now -/
def sn_ (T : sp_T) (v : sp_V) (a : Int) : Bool := decide (0 ≤ a ∧ a < nP_ T) && sh_ v a.toNat
theorem sn_t {T : sp_T} {v : sp_V} {a : Int} (h : sn_ T v a = true) : ∃ p : Nat, a = (p : Int) ∧ p < nP_ T ∧ sh_ v p = true := by
  unfold sn_ at h
  rw [Bool.and_eq_true, decide_eq_true_eq] at h
  exact ⟨a.toNat, by omega, by omega, h.2⟩
theorem sh_cg {v w : sp_V} (h : ∀ j, j < 50 → v j = w j) {p : Nat} (hp : p < 6) : sh_ v p = sh_ w p := by
  unfold sh_
  rw [h _ (by omega)]
theorem sn_cg {T : sp_T} {v w : sp_V} (hV : TV_ T) (h : ∀ j, j < 50 → v j = w j) (a : Int) : sn_ T v a = sn_ T w a := by
  have := hV.nP
  unfold sn_
  by_cases q : 0 ≤ a ∧ a < nP_ T
  · rw [sh_cg h (by omega)]
  · simp [q]
theorem VV_.cg {T : sp_T} {b : Int} {v w : sp_V} (hV : TV_ T) (h : VV_ T b w) (e : ∀ j, j < 50 → v j = w j) : VV_ T b v := by
  have := hV.nP
  refine ⟨by rw [e 49 (by omega)]; exact h.1, by rw [e 48 (by omega)]; exact h.2.1, fun p hp => ?_⟩
  obtain ⟨h1, h2, h3, h4, h5⟩ := h.2.2 p hp
  refine ⟨by rw [e p (by omega)]; exact h1, by rw [e _ (by omega)]; exact h2, by rw [e _ (by omega)]; exact h3, by rw [e _ (by omega)]; exact h4, fun s hs => by rw [e _ (by omega)]; exact h5 s hs⟩
def inr_ (n : Nat) (a : Int) : Bool := decide (0 ≤ a ∧ a < (n : Int))
theorem inr_t {n : Nat} {a : Int} (h : inr_ n a = true) : ∃ p : Nat, a = (p : Int) ∧ p < n := by
  unfold inr_ at h
  rw [decide_eq_true_eq] at h
  exact ⟨a.toNat, by omega, by omega⟩
def F_person (T : sp_T) (v : sp_V) (a k : Int) : Int := if inr_ (nP_ T) a then (if k = 0 then v a.toNat else if k = 1 then v (12 + a.toNat) else if k = 2 then v (18 + a.toNat) else if k = 3 then (pa_ T a.toNat : Int) else if k = 4 then v (6 + a.toNat) else if k = 5 then (cs_ T v a.toNat : Int) else -2) else -2
def F_level (T : sp_T) (v : sp_V) (a s : Int) : Int := if inr_ (nP_ T) a && inr_ (nS_ T) s then v (24 + 4 * a.toNat + s.toNat) else -1
def F_order (T : sp_T) (a k : Int) : Int := if inr_ (nO_ T) a then (if k = 0 then (sk_ T a.toNat : Int) else if k = 1 then T 152 a.toNat else if k = 2 then T 153 a.toNat else if k = 3 then T 154 a.toNat else if k = 4 then T 155 a.toNat else if k = 5 then T 156 a.toNat else -1) else -1
def F_share (T : sp_T) (a o : Int) : Int := if inr_ (nR_ T) a && inr_ (nO_ T) o then T 158 (8 * a.toNat + o.toNat) else -1
def F_many (T : sp_T) (v : sp_V) (h : Int) : Int := if decide (0 ≤ h ∧ h ≤ 4) then (mo_ T v h : Int) else -1
def F_able (T : sp_T) (v : sp_V) (a : Int) : Int := if inr_ (nO_ T) a then (bi_ (nP_ T) (fun p => sh_ v p && cn_ T v p a.toNat) : Int) else -1
def gz_ (T : sp_T) (v : sp_V) (p : Nat) (z : Int) : Nat → sp_V
  | 0 => v
  | n + 1 => ga_ T (gz_ T v p z n) p z
def gcd_ (a b : Int) : Nat := Nat.gcd a.toNat b.toNat
def F_odds (T : sp_T) (v : sp_V) (a k : Int) : Int := if sn_ T v a && decide (0 ≤ k ∧ k ≤ 1) then (if k = 0 then (((po_ T (gz_ T v a.toNat (v (18 + a.toNat)) (yf_ T v a.toNat)) a.toNat).toNat / gcd_ (pl_ T (gz_ T v a.toNat (v (18 + a.toNat)) (yf_ T v a.toNat)) a.toNat) (po_ T (gz_ T v a.toNat (v (18 + a.toNat)) (yf_ T v a.toNat)) a.toNat) : Nat) : Int) else (((pl_ T (gz_ T v a.toNat (v (18 + a.toNat)) (yf_ T v a.toNat)) a.toNat).toNat / gcd_ (pl_ T (gz_ T v a.toNat (v (18 + a.toNat)) (yf_ T v a.toNat)) a.toNat) (po_ T (gz_ T v a.toNat (v (18 + a.toNat)) (yf_ T v a.toNat)) a.toNat) : Nat) : Int)) else -1
def F_hope (T : sp_T) (v : sp_V) (a k : Int) : Int := if sn_ T v a && decide (0 ≤ k ∧ k ≤ 1) then (if k = 0 then (((wo_ T (gz_ T v a.toNat (v (18 + a.toNat)) (yf_ T v a.toNat)) a.toNat).toNat / gcd_ (pl_ T (gz_ T v a.toNat (v (18 + a.toNat)) (yf_ T v a.toNat)) a.toNat) (wo_ T (gz_ T v a.toNat (v (18 + a.toNat)) (yf_ T v a.toNat)) a.toNat) : Nat) : Int) else (((pl_ T (gz_ T v a.toNat (v (18 + a.toNat)) (yf_ T v a.toNat)) a.toNat).toNat / gcd_ (pl_ T (gz_ T v a.toNat (v (18 + a.toNat)) (yf_ T v a.toNat)) a.toNat) (wo_ T (gz_ T v a.toNat (v (18 + a.toNat)) (yf_ T v a.toNat)) a.toNat) : Nat) : Int)) else -1
def rd_ (T : sp_T) (p o : Nat) : Nat → Nat → sp_V → Int
  | 0, _, _ => -1
  | m + 1, n, u => if cn_ T u p o then (n : Int) else rd_ T p o m (n + 1) (ga_ T u p (T 151 o))
def F_ready (T : sp_T) (v : sp_V) (a o : Int) : Int := if sn_ T v a && inr_ (nO_ T) o then rd_ T a.toNat o.toNat 61 0 v else -1
def lo_ (T : sp_T) (v : sp_V) (p n : Nat) : Nat := bi_ (nO_ T) (fun o => decide (0 < T 158 (8 * pa_ T p + o)) && !an_ n (fun s => cn_ T (gz_ T v p s (yf_ T v p)) p o))
def F_lost (T : sp_T) (v : sp_V) (a : Int) : Int := if sn_ T v a then (lo_ T v a.toNat (nS_ T) : Int) else -1
def F_will (T : sp_T) (v : sp_V) (a n : Int) : Int := if inr_ (nP_ T) a && decide (0 ≤ n ∧ n ≤ 60) then ys_ T v n.toNat (12 + a.toNat) else -1
def fs_ (T : sp_T) (w : sp_V) (k : Int) : Nat → Nat → sp_V → Int
  | 0, _, _ => -1
  | m + 1, n, u => if 0 ≤ ff_ T (yr_ T u) w (nP_ T) 0 then (if k = 0 then ff_ T (yr_ T u) w (nP_ T) 0 else (n : Int)) else fs_ T w k m (n + 1) (yr_ T u)
def F_first (T : sp_T) (v : sp_V) (k : Int) : Int := if decide (0 ≤ k ∧ k ≤ 1) then fs_ T v k 60 1 v else -1
def rp_ (v : sp_V) (o z : Int) : Nat → sp_V
  | 0 => v
  | p + 1 => if sh_ (rp_ v o z p) p && decide (rp_ v o z p (6 + p) = o) then am_up (rp_ v o z p) (6 + p) z else rp_ v o z p
def di_ (T : sp_T) (v : sp_V) (o z : Int) : Nat := mo_ T (ys_ T (rp_ v o z (nP_ T)) 60) 2
def F_law (T : sp_T) (v : sp_V) (a o : Int) : Int := if inr_ (nO_ T) a && (inr_ (nO_ T) o && decide (¬ a = o)) then (di_ T v a o : Int) - (di_ T v a a : Int) else -100
theorem VV_.ga {T : sp_T} {b : Int} {v : sp_V} (h : VV_ T b v) (hV : TV_ T) {p : Nat} (hp : p < nP_ T) {z : Int} (hz : z < T 135 50) : VV_ T (b + 1) (ga_ T v p z) := by
  have hl := h.ln hV hp hz
  have h8 := hV.nP
  have h1 := (hl.2.2 p hp).1
  have h2 := hl.1
  have hl := hl.le (b' := b + 1) (by omega)
  exact (hl.up (by omega) (by omega) (by omega) (by omega) (by omega) (by omega) (by omega)).up (by omega) (by omega) (by omega) (by omega) (by omega) (by omega) (by omega)
theorem VV_.gz {T : sp_T} {b : Int} {v : sp_V} (h : VV_ T b v) (hV : TV_ T) {p : Nat} (hp : p < nP_ T) {z : Int} (hz : z < T 135 50) : ∀ n : Nat, VV_ T (b + n) (gz_ T v p z n)
  | 0 => by
    rw [show b + ((0 : Nat) : Int) = b by omega]
    exact h
  | n + 1 => by
    have := (VV_.gz h hV hp hz n).ga hV hp hz
    rw [show b + ((n + 1 : Nat) : Int) = b + n + 1 by omega]
    exact this
theorem ga_ne {T : sp_T} {v : sp_V} {p j : Nat} {z : Int} (hV : TV_ T) (hp : p < 6) (hz : z < T 135 50) (h1 : j ≠ p) (h2 : j ≠ 49) (h3 : j < 24 ∨ 48 ≤ j) : ga_ T v p z j = v j := by
  have := hV.nS
  unfold ga_
  rw [am_up_ne h2, am_up_ne h1, ln_ne h3 hp (by omega)]
theorem gz_ne {T : sp_T} {v : sp_V} {p j : Nat} {z : Int} (hV : TV_ T) (hp : p < 6) (hz : z < T 135 50) (h1 : j ≠ p) (h2 : j ≠ 49) (h3 : j < 24 ∨ 48 ≤ j) : ∀ n, gz_ T v p z n j = v j
  | 0 => rfl
  | n + 1 => by
    show ga_ T _ p z j = _
    rw [ga_ne hV hp hz h1 h2 h3, gz_ne hV hp hz h1 h2 h3 n]
theorem op_tl {T : sp_T} {v : sp_V} {p : Nat} (hp : p < 6) {j : Nat} (hj : 50 ≤ j) : op_ T v p j = v j := op_ne (by omega) (by omega)
theorem po_bd {T : sp_T} {v : sp_V} (hV : TV_ T) {p : Nat} (hp : p < nP_ T) : 0 ≤ po_ T v p ∧ po_ T v p ≤ 72 := by
  have hpa := hV.pa hp
  have h := su_bd (f := fun o => if cn_ T v p o then T 158 (8 * pa_ T p + o) else 0) (b := 9) (by omega) (nO_ T) (fun k hk => by have := hV.od hpa.2.1 hk; split <;> omega)
  have := hV.nO
  unfold po_
  split
  · omega
  · split
    · split <;> omega
    · omega
theorem wo_bd {T : sp_T} {b : Int} {v : sp_V} (hV : TV_ T) (hW : VV_ T b v) {p : Nat} (hp : p < nP_ T) : 0 ≤ wo_ T v p ∧ wo_ T v p ≤ 648 := by
  have hpa := hV.pa hp
  have h := su_bd (f := fun o => if cn_ T v p o then T 155 o * T 158 (8 * pa_ T p + o) else 0) (b := 81) (by omega) (nO_ T) (fun k hk => by
    have h1 := hV.od hpa.2.1 hk
    have h2 := hV.wo hk
    have := mul_bd (A := 9) (B := 9) (a := T 155 k) (b := T 158 (8 * pa_ T p + k)) (by omega) h2.2 h1.1 h1.2
    split <;> omega)
  have := hV.nO
  have h6 := (hW.2.2 p hp).2.1
  unfold wo_
  split
  · omega
  · next hb =>
    split
    · next h1 =>
      have h0 : 0 ≤ v (6 + p) := by
        unfold ib_ at hb
        rw [if_pos h1] at hb
        simpa using hb
      have := hV.wo (o := (v (6 + p)).toNat) (by omega)
      split <;> omega
    · omega
theorem pl_bd {T : sp_T} {v : sp_V} (hV : TV_ T) {p : Nat} (hp : p < nP_ T) : 1 ≤ pl_ T v p ∧ pl_ T v p ≤ 72 := by
  have hpa := hV.pa hp
  have h := al_bd hV hpa.2.1
  unfold pl_
  split
  · omega
  · next hb =>
    have : ¬ al_ T (pa_ T p) = 0 := by
      intro q
      apply hb
      unfold ib_
      by_cases h1 : v (12 + p) = 1 <;> simp [h1, q]
    omega
theorem F_odds_u {T : sp_T} {v u : sp_V} {p : Nat} {k : Int} (h : sn_ T v (p : Int) = true) (hk : 0 ≤ k ∧ k ≤ 1) (hu : u = gz_ T v p (v (18 + p)) (yf_ T v p)) : F_odds T v (p : Int) k = if k = 0 then (((po_ T u p).toNat / gcd_ (pl_ T u p) (po_ T u p) : Nat) : Int) else (((pl_ T u p).toNat / gcd_ (pl_ T u p) (po_ T u p) : Nat) : Int) := by
  subst hu
  unfold F_odds
  rw [h]
  simp [hk]
theorem F_hope_u {T : sp_T} {v u : sp_V} {p : Nat} {k : Int} (h : sn_ T v (p : Int) = true) (hk : 0 ≤ k ∧ k ≤ 1) (hu : u = gz_ T v p (v (18 + p)) (yf_ T v p)) : F_hope T v (p : Int) k = if k = 0 then (((wo_ T u p).toNat / gcd_ (pl_ T u p) (wo_ T u p) : Nat) : Int) else (((pl_ T u p).toNat / gcd_ (pl_ T u p) (wo_ T u p) : Nat) : Int) := by
  subst hu
  unfold F_hope
  rw [h]
  simp [hk]
theorem yf_cg {T : sp_T} {v w : sp_V} {p : Nat} (h : v p = w p) : yf_ T v p = yf_ T w p := by
  unfold yf_
  rw [h]
theorem yf_bd {T : sp_T} {b : Int} {v : sp_V} (hV : TV_ T) (hW : VV_ T b v) {p : Nat} (hp : p < nP_ T) : 1 ≤ yf_ T v p ∧ yf_ T v p ≤ 60 := by
  have := hV.oa
  have := (hW.2.2 p hp).1
  unfold yf_
  split <;> omega
theorem ys_sn {T : sp_T} {v : sp_V} : ∀ n m, ys_ T (ys_ T v n) m = ys_ T v (n + m)
  | _, 0 => rfl
  | n, m + 1 => by
    show yr_ T (ys_ T (ys_ T v n) m) = yr_ T (ys_ T v (n + m))
    rw [ys_sn n m]
/-- far ends of a row stay -/
def tl_ (u v : sp_V) : Prop := ∀ j, 50 ≤ j → u j = v j
theorem tl_rf (u : sp_V) : tl_ u u := fun _ _ => rfl
theorem tl_tr {u v w : sp_V} (h1 : tl_ u v) (h2 : tl_ v w) : tl_ u w := fun j hj => by rw [h1 j hj, h2 j hj]
theorem tl_up (v : sp_V) {k : Nat} (z : Int) (hk : k < 50) : tl_ (am_up v k z) v := fun j hj => by rw [am_up_ne (by omega)]
theorem tl_ln {T : sp_T} {v : sp_V} {p : Nat} {z : Int} (hV : TV_ T) (hp : p < 6) (hz : z < T 135 50) : tl_ (ln_ T v p z) v := fun j hj => by
  have := hV.nS
  exact ln_ne (by omega) hp (by omega)
theorem tl_op {T : sp_T} {v : sp_V} {p : Nat} (hp : p < 6) : tl_ (op_ T v p) v := fun j hj => op_tl hp hj
theorem tl_ga {T : sp_T} {v : sp_V} {p : Nat} {z : Int} (hV : TV_ T) (hp : p < 6) (hz : z < T 135 50) : tl_ (ga_ T v p z) v := fun j hj => ga_ne hV hp hz (by omega) (by omega) (by omega)
theorem tl_gz {T : sp_T} {v : sp_V} {p : Nat} {z : Int} (hV : TV_ T) (hp : p < 6) (hz : z < T 135 50) (n : Nat) : tl_ (gz_ T v p z n) v := fun j hj => gz_ne hV hp hz (by omega) (by omega) (by omega) n
theorem tl_yr {T : sp_T} {b : Int} {v : sp_V} (hV : TV_ T) (hW : VV_ T b v) : tl_ (yr_ T v) v := by
  intro j hj
  have h8 := hV.nP
  have key : ∀ k, k ≤ nP_ T → (yl_ T v k).1 j = v j := by
    intro k
    induction k with
    | zero => intro _; rfl
    | succ k ih =>
      intro hk
      have h1 := (yl_in hW hV k (by omega)).1
      have hs := (h1.2.2 k (by omega)).2.2.2.1
      have h9 := hV.nS
      show (yp_ T k (yl_ T v k)).1 j = _
      rw [yp_keep hV (by omega) (by omega) (by omega) (by omega) (by omega) (by omega), ih (by omega)]
  show am_up _ 49 _ j = _
  rw [am_up_ne (by omega), key _ (Nat.le_refl _)]
theorem tl_ys {T : sp_T} {b : Int} {v : sp_V} (hV : TV_ T) (hW : VV_ T b v) : ∀ n, tl_ (ys_ T v n) v
  | 0 => tl_rf _
  | n + 1 => tl_tr (tl_yr hV (hW.ys hV n)) (tl_ys hV hW n)
theorem tl_cp {w g u : sp_V} (h : tl_ u g) : cp_ w u 50 = cp_ w g 50 := by
  funext j
  unfold cp_
  by_cases q : j < 50
  · rw [if_pos q, if_pos q]
  · rw [if_neg q, if_neg q, h j (by omega)]
theorem tl_cpg (w g : sp_V) : tl_ (cp_ w g 50) g := fun j hj => by unfold cp_; rw [if_neg (by omega)]
theorem rp_ne {v : sp_V} {o z : Int} {j : Nat} : ∀ k, (j < 6 ∨ 6 + k ≤ j) → rp_ v o z k j = v j
  | 0, _ => rfl
  | k + 1, h => by
    unfold rp_
    split
    · rw [am_up_ne (by omega), rp_ne k (by omega)]
    · exact rp_ne k (by omega)
theorem VV_.rp {T : sp_T} {b : Int} {v : sp_V} (h : VV_ T b v) {o z : Int} (hz : -1 ≤ z ∧ z < T 135 51) : ∀ k, k ≤ nP_ T → nP_ T ≤ 6 → VV_ T b (rp_ v o z k)
  | 0, _, _ => h
  | k + 1, hk, h6 => by
    have ih := VV_.rp (o := o) h hz k (by omega) h6
    unfold rp_
    split
    · exact ih.up (by omega) (by omega) (by omega) (fun _ _ _ => hz) (by omega) (by omega) (by omega)
    · exact ih
theorem tl_rp (v : sp_V) (o z : Int) (k : Nat) (hk : k ≤ 6) : tl_ (rp_ v o z k) v := fun j hj => rp_ne k (by omega)
