/-- what a line may change: the town that is told, the reader's own -/
def gl_ (t : Nat) (σ σ' : am_S) : Prop := (∀ b, (b < t ∨ t + 30 < b) → b ≠ 66 → σ'.1 b = σ.1 b) ∧ (∀ k, k ∉ [0, 1, 5, 6, 7, 9, 11] → σ'.1 66 k = σ.1 66 k) ∧ (∀ b, (b < t ∨ t + 30 < b) → b ≠ 66 → σ'.2.1 b = σ.2.1 b) ∧ (∀ k, k ≠ 8 → σ'.2.1 66 k = σ.2.1 66 k) ∧ σ'.2.2 = σ.2.2
theorem gl_rf (t : Nat) (σ : am_S) : gl_ t σ σ := ⟨fun _ _ _ => rfl, fun _ _ => rfl, fun _ _ _ => rfl, fun _ _ => rfl, rfl⟩
theorem gl_tr {t : Nat} {σ σ1 σ2 : am_S} (h1 : gl_ t σ σ1) (h2 : gl_ t σ1 σ2) : gl_ t σ σ2 :=
  ⟨fun b hb h6 => by rw [h2.1 b hb h6, h1.1 b hb h6], fun k hk => by rw [h2.2.1 k hk, h1.2.1 k hk], fun b hb h6 => by rw [h2.2.2.1 b hb h6, h1.2.2.1 b hb h6], fun k hk => by rw [h2.2.2.2.1 k hk, h1.2.2.2.1 k hk], by rw [h2.2.2.2.2, h1.2.2.2.2]⟩
theorem gl_gx {t : Nat} {A B K : List Nat} {σ σ' : am_S} (h : gx_ A B K σ σ') (hA : ∀ a, a ∈ A → t ≤ a ∧ a ≤ t + 30) (hB : ∀ a, a ∈ B → t ≤ a ∧ a ≤ t + 30) (hK : ∀ k, k ∈ K → k ∈ [0, 1, 5, 6, 7, 9, 11]) : gl_ t σ σ' :=
  ⟨fun b hb h6 => h.1 b (fun q => by have := hA b q; omega) h6, fun k hk => h.2.1 k (fun q => hk (hK k q)), fun b hb h6 => h.2.2.1 b (fun q => by have := hB b q; omega) h6, h.2.2.2.1, h.2.2.2.2⟩
theorem gx_fr {l : List Nat} {σ σ' : am_S} (h : fr_ l σ σ') (h6 : 66 ∉ l) : gx_ l [] [] σ σ' := ⟨fun b hb _ => h.1 b hb, fun k _ => by rw [h.1 66 h6], fun b _ _ => by rw [h.2], fun k _ => by rw [h.2], by rw [h.2]⟩
theorem gx_tr2 {A B K : List Nat} {σ σ1 σ2 : am_S} (h1 : gx_ A B K σ σ1) (h2 : gx_ A B K σ1 σ2) : gx_ A B K σ σ2 := gx_tr h1 h2 (fun _ h => h) (fun _ h => h) (fun _ h => h) (fun _ h => h) (fun _ h => h) (fun _ h => h)
theorem gx_su {A B K A' B' K' : List Nat} {σ σ' : am_S} (h : gx_ A B K σ σ') (a : ∀ x, x ∈ A → x ∈ A') (b : ∀ x, x ∈ B → x ∈ B') (k : ∀ x, x ∈ K → x ∈ K') : gx_ A' B' K' σ σ' := gx_tr (gx_rf [] [] [] σ) h (fun _ q => by cases q) a (fun _ q => by cases q) b (fun _ q => by cases q) k
/-- the town that is told agrees with the reference's, piece by piece -/
def XDN_ (t : Nat) (D : sp_T) (σ : am_S) : Prop := NM_ (t + 4) (t + 1) 1 (D 137) 0 (D 135 43).toNat σ ∧ NM_ (t + 5) (t + 1) 2 (D 137) 4 (D 135 44).toNat σ ∧ NM_ (t + 6) (t + 1) 3 (D 137) 12 (D 135 45).toNat σ ∧ NM_ (t + 3) (t + 1) 0 (D 137) 15 (D 135 46).toNat σ
def XDO_ (t : Nat) (D : sp_T) (σ : am_S) : Prop := ∀ o, o < 8 → (o < (D 135 44).toNat → σ.1 (t + 8) o = D 145 o ∧ σ.1 (t + 9) o = D 146 o ∧ σ.1 (t + 10) o = D 147 o ∧ σ.1 (t + 11) o = D 148 o ∧ σ.1 (t + 12) o = D 149 o ∧ σ.1 (t + 13) o = D 150 o) ∧ ((D 135 44).toNat ≤ o → σ.1 (t + 13) o = 0) ∧ σ.1 (t + 14) o = ((bi_ (D 135 44).toNat (fun u => tb_ (D 150 u) o) : Nat) : Int)
def XDR_ (t : Nat) (D : sp_T) (σ : am_S) : Prop := ∀ r o, r < 3 → o < 8 → σ.1 (t + 16 + r) o = (if r < (D 135 45).toNat then D 157 (8 * r + o) else 0)
def XDP_ (t : Nat) (D : sp_T) (σ : am_S) : Prop := ∀ p, p < (D 135 46).toNat → σ.1 (t + 19) p = D 159 p ∧ σ.1 (t + 20) p = D 160 p ∧ ∀ s, s < 4 → σ.1 (t + 22 + p) s = D 161 (4 * p + s)
def XDX_ (t : Nat) (D : sp_T) (σ : am_S) : Prop := σ.1 t 10 = D 135 48 ∧ σ.1 t 11 = D 135 49 ∧ σ.1 (t + 1) 4 = D 135 47
def XDT_ (t : Nat) (D : sp_T) (σ : am_S) : Prop := σ.1 (t + 28) 4 = D 135 20 ∧ σ.1 (t + 28) 3 = (if D 135 57 = 0 then 0 else D 135 17) ∧ (D 135 57 = 1 → ∀ k, k < (D 135 17).toNat → σ.1 (t + 29) k = fk_ (D 138 k) (D 139 k) ∧ (D 138 k = 0 → σ.1 (t + 30) k = D 139 k))
def XDW_ (D : sp_T) (σ : am_S) : Prop := ∃ o : Nat, σ.1 66 11 = (o : Int) ∧ o < 2 ^ 21 ∧ o.testBit 12 = decide (D 135 57 = 1) ∧ o.testBit 13 = decide (D 135 58 = 1) ∧ o.testBit 14 = decide (D 135 59 = 1)
def XD_ (t : Nat) (D : sp_T) (σ : am_S) : Prop := XDN_ t D σ ∧ XDO_ t D σ ∧ XDR_ t D σ ∧ XDP_ t D σ ∧ XDX_ t D σ ∧ XDT_ t D σ ∧ XDW_ D σ
theorem NM_.cg {a c s : Nat} {g g' : Nat → Int} {b m m' : Nat} {σ σ' : am_S} (h : NM_ a c s g b m σ) (h1 : σ'.1 c s = σ.1 c s) (h2 : σ'.2.1 a = σ.2.1 a) (h3 : ∀ i, i < m → g' (b + i) = g (b + i)) (hm : m' = m) : NM_ a c s g' b m' σ' := by
  subst hm
  exact ⟨by rw [h1]; exact h.1, h.2.1, fun i hi => by rw [h2, h3 i hi]; exact h.2.2.1 i hi, fun i j hi hj e => h.2.2.2 i j hi hj (by rw [← h3 i hi, ← h3 j hj]; exact e)⟩
/-- one name more -/
theorem NM_.add {a c s : Nat} {g g' : Nat → Int} {b m m' : Nat} {σ σ' : am_S} {w : Int} (h : NM_ a c s g b m σ) (hm8 : m < 8) (h1 : σ'.1 c s = ((m + 1 : Nat) : Int)) (h2 : σ'.2.1 a = am_up (σ.2.1 a) m (n5_ w)) (hw : WK_ w) (hn : fi_ g w b m < 0) (h3 : ∀ i, i < m → g' (b + i) = g (b + i)) (h4 : g' (b + m) = w) (hm : m' = m + 1) : NM_ a c s g' b m' σ' := by
  subst hm
  have hno : ∀ i, i < m → g (b + i) ≠ w := fun i hi e => by
    have := fi_at (w := w) e m hi (fun j hj e2 => h.2.2.2 j i hj hi (by rw [e2, e]))
    omega
  refine ⟨h1, by omega, fun i hi => ?_, fun i j hi hj e => ?_⟩
  · by_cases q : i = m
    · subst q
      rw [h2, am_up_same, h4]
      exact ⟨rfl, hw⟩
    · rw [h2, am_up_ne q, h3 i (by omega)]
      exact h.2.2.1 i (by omega)
  · by_cases q : i = m
    · by_cases q2 : j = m
      · omega
      · subst q
        rw [h4, h3 j (by omega)] at e
        exact absurd e.symm (hno j (by omega))
    · by_cases q2 : j = m
      · subst q2
        rw [h4, h3 i (by omega)] at e
        exact absurd e (hno i (by omega))
      · rw [h3 i (by omega), h3 j (by omega)] at e
        exact h.2.2.2 i j (by omega) (by omega) e
theorem XDN_.cg {t : Nat} {D D' : sp_T} {σ σ' : am_S} (h : XDN_ t D σ) (h1 : ∀ s, s < 4 → σ'.1 (t + 1) s = σ.1 (t + 1) s) (h2 : ∀ a, t + 3 ≤ a → a ≤ t + 6 → σ'.2.1 a = σ.2.1 a) (h3 : D' 137 = D 137) (h4 : D' 135 43 = D 135 43) (h5 : D' 135 44 = D 135 44) (h6 : D' 135 45 = D 135 45) (h7 : D' 135 46 = D 135 46) : XDN_ t D' σ' :=
  ⟨h.1.cg (h1 1 (by omega)) (h2 _ (by omega) (by omega)) (fun i _ => by rw [h3]) (by rw [h4]), h.2.1.cg (h1 2 (by omega)) (h2 _ (by omega) (by omega)) (fun i _ => by rw [h3]) (by rw [h5]), h.2.2.1.cg (h1 3 (by omega)) (h2 _ (by omega) (by omega)) (fun i _ => by rw [h3]) (by rw [h6]), h.2.2.2.cg (h1 0 (by omega)) (h2 _ (by omega) (by omega)) (fun i _ => by rw [h3]) (by rw [h7])⟩
theorem XDO_.cg {t : Nat} {D D' : sp_T} {σ σ' : am_S} (h : XDO_ t D σ) (h1 : ∀ a, t + 8 ≤ a → a ≤ t + 14 → σ'.1 a = σ.1 a) (h2 : ∀ a, 145 ≤ a → a ≤ 150 → D' a = D a) (h3 : D' 135 44 = D 135 44) : XDO_ t D' σ' := fun o ho => by
  rw [h1 (t + 8) (by omega) (by omega), h1 (t + 9) (by omega) (by omega), h1 (t + 10) (by omega) (by omega), h1 (t + 11) (by omega) (by omega), h1 (t + 12) (by omega) (by omega), h1 (t + 13) (by omega) (by omega), h1 (t + 14) (by omega) (by omega), h2 145 (by omega) (by omega), h2 146 (by omega) (by omega), h2 147 (by omega) (by omega), h2 148 (by omega) (by omega), h2 149 (by omega) (by omega), h2 150 (by omega) (by omega), h3]
  exact h o ho
theorem XDR_.cg {t : Nat} {D D' : sp_T} {σ σ' : am_S} (h : XDR_ t D σ) (h1 : ∀ r, r < 3 → σ'.1 (t + 16 + r) = σ.1 (t + 16 + r)) (h2 : D' 157 = D 157) (h3 : D' 135 45 = D 135 45) : XDR_ t D' σ' := fun r o hr ho => by
  rw [h1 r hr, h2, h3]
  exact h r o hr ho
theorem XDP_.cg {t : Nat} {D D' : sp_T} {σ σ' : am_S} (h : XDP_ t D σ) (hP : (D 135 46).toNat ≤ 6) (h1 : ∀ a, t + 19 ≤ a → a ≤ t + 27 → σ'.1 a = σ.1 a) (h2 : ∀ a, 159 ≤ a → a ≤ 161 → D' a = D a) (h3 : D' 135 46 = D 135 46) : XDP_ t D' σ' := fun p hp => by
  rw [h3] at hp
  rw [h1 (t + 19) (by omega) (by omega), h1 (t + 20) (by omega) (by omega), h1 (t + 22 + p) (by omega) (by omega), h2 159 (by omega) (by omega), h2 160 (by omega) (by omega), h2 161 (by omega) (by omega)]
  exact h p hp
theorem XDX_.cg {t : Nat} {D D' : sp_T} {σ σ' : am_S} (h : XDX_ t D σ) (h1 : σ'.1 t = σ.1 t) (h2 : σ'.1 (t + 1) 4 = σ.1 (t + 1) 4) (h3 : D' 135 48 = D 135 48) (h4 : D' 135 49 = D 135 49) (h5 : D' 135 47 = D 135 47) : XDX_ t D' σ' := by
  unfold XDX_
  rw [h1, h2, h3, h4, h5]
  exact h
theorem XDT_.cg {t : Nat} {D D' : sp_T} {σ σ' : am_S} (h : XDT_ t D σ) (h1 : ∀ a, t + 28 ≤ a → a ≤ t + 30 → σ'.1 a = σ.1 a) (h2 : D' 135 57 = D 135 57) (h3 : D' 135 17 = D 135 17) (h4 : D' 135 20 = D 135 20) (h5 : D' 138 = D 138) (h6 : D' 139 = D 139) : XDT_ t D' σ' := by
  unfold XDT_
  rw [h1 (t + 28) (by omega) (by omega), h1 (t + 29) (by omega) (by omega), h1 (t + 30) (by omega) (by omega), h2, h3, h4, h5, h6]
  exact h
theorem XDW_.cg {D D' : sp_T} {σ σ' : am_S} (h : XDW_ D σ) (h1 : σ'.1 66 11 = σ.1 66 11) (h2 : D' 135 57 = D 135 57) (h3 : D' 135 58 = D 135 58) (h4 : D' 135 59 = D 135 59) : XDW_ D' σ' := by
  unfold XDW_
  rw [h1, h2, h3, h4]
  exact h
/-- what a line of the class comes to -/
def LX_ (tp : Nat → Int) (n t : Nat) (r : sp_L) (σ0 : am_S) (Q : Option am_V → am_S → Prop) : Prop := (∀ e, r = Sum.inl e → ∀ σ', gl_ t σ0 σ' → FX_ tp n e σ' → Q (some (am_I 0)) σ') ∧ ∀ D' p', r = Sum.inr (D', p') → ∀ σ', gl_ t σ0 σ' → RC_ tp n t p' σ' → XD_ t D' σ' → Q (some (am_I 1)) σ'
theorem LX_.no {tp : Nat → Int} {n t : Nat} {r : sp_L} {σ0 : am_S} {Q : Option am_V → am_S → Prop} (h : LX_ tp n t r σ0 Q) {e : Int × Nat} (hr : r = Sum.inl e) {σ' : am_S} (hf : gl_ t σ0 σ') (hF : FX_ tp n e σ') : Q (some (am_I 0)) σ' := h.1 e hr σ' hf hF
