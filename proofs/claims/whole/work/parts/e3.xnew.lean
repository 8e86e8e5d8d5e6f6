theorem dq_bd (T : sp_T) (q : Nat) : ∀ (m o : Nat) (l : Int), -1 ≤ dq_ T q m o l ∧ dq_ T q m o l < ((o + m : Nat) : Int)
  | 0, o, l => ⟨by show (-1 : Int) ≤ -1; omega, by show (-1 : Int) < _; omega⟩
  | m + 1, o, l => by
    have ih := dq_bd T q m (o + 1) (l - T 158 (8 * q + o))
    show -1 ≤ (if l < T 158 (8 * q + o) then (o : Int) else dq_ T q m (o + 1) (l - T 158 (8 * q + o))) ∧ (if l < T 158 (8 * q + o) then (o : Int) else dq_ T q m (o + 1) (l - T 158 (8 * q + o))) < _
    split
    · exact ⟨by omega, by omega⟩
    · exact ⟨ih.1, by omega⟩
theorem dr_bd {T : sp_T} {q : Nat} {s : Int} : -1 ≤ dr_ T q s ∧ dr_ T q s < ((nO_ T + 1 : Nat) : Int) ∧ (dr_ T q s < (nO_ T : Int) ∨ dr_ T q s = -1) := by
  unfold dr_
  split
  · exact ⟨by omega, by omega, Or.inr rfl⟩
  · have := dq_bd T q (nO_ T) 0 (am_rem s (al_ T q))
    exact ⟨this.1, by omega, Or.inl (by omega)⟩
theorem dq_cg {T T' : sp_T} {q : Nat} : ∀ (m o : Nat) (l : Int), (∀ i, i < o + m → T' 158 (8 * q + i) = T 158 (8 * q + i)) → dq_ T' q m o l = dq_ T q m o l
  | 0, _, _, _ => rfl
  | m + 1, o, l, h => by
    have ih := dq_cg (T := T) (T' := T') (q := q) m (o + 1) (l - T 158 (8 * q + o)) (fun i hi => h i (by omega))
    show (if l < T' 158 (8 * q + o) then (o : Int) else dq_ T' q m (o + 1) (l - T' 158 (8 * q + o))) = (if l < T 158 (8 * q + o) then (o : Int) else dq_ T q m (o + 1) (l - T 158 (8 * q + o)))
    rw [h o (by omega), ih]
theorem dr_cg {T T' : sp_T} {q : Nat} {s : Int} (hn : nO_ T' = nO_ T) (h : ∀ i, i < nO_ T → T' 158 (8 * q + i) = T 158 (8 * q + i)) : dr_ T' q s = dr_ T q s := by
  have ha : al_ T' q = al_ T q := by
    unfold al_
    rw [hn]
    exact su_eq _ (fun k hk => h k hk)
  unfold dr_
  rw [ha, hn]
  split
  · rfl
  · exact dq_cg _ _ _ (fun i hi => h i (by omega))
theorem lyt_at (T D : sp_T) (g f : Nat → Int) (s : Nat) : ∀ k, k ≤ 6 → (∀ j, j < k → (lyt_ T D g f s k).1 j = D 160 j ∧ (lyt_ T D g f s k).1 (6 + j) = dr_ T (D 159 j).toNat ((sd_ s (j + 1) : Nat) : Int) ∧ (lyt_ T D g f s k).1 (12 + j) = 0 ∧ (lyt_ T D g f s k).1 (18 + j) = -1 ∧ ∀ i, i < 4 → (lyt_ T D g f s k).1 (24 + 4 * j + i) = D 161 (4 * j + i)) ∧ (lyt_ T D g f s k).1 48 = g 48 ∧ (lyt_ T D g f s k).1 49 = g 49
  | 0, _ => ⟨fun j hj => absurd hj (by omega), rfl, rfl⟩
  | k + 1, hk => by
    have ih := lyt_at T D g f s k (by omega)
    have e : (lyt_ T D g f s (k + 1)).1 = (am_up (am_up (am_up (am_up (am_up (am_up (am_up (am_up (lyt_ T D g f s k).1 k (D 160 k)) (6 + k) (dr_ T (D 159 k).toNat ((sd_ s (k + 1) : Nat) : Int))) (12 + k) 0) (18 + k) (-1)) (24 + 4 * k + 0) (D 161 (4 * k + 0))) (24 + 4 * k + 1) (D 161 (4 * k + 1))) (24 + 4 * k + 2) (D 161 (4 * k + 2))) (24 + 4 * k + 3) (D 161 (4 * k + 3))) := by
      show (am_up (am_up (am_up (am_up (am_up (am_up (am_up (am_up (lyt_ T D g f s k).1 k (D 160 k)) (6 + k) (dr_ T (D 159 k).toNat ((((lyt_ T D g f s k).2.2 * 137 + 71) % 1000 : Nat) : Int))) (12 + k) 0) (18 + k) (-1)) (24 + 4 * k + 0) (D 161 (4 * k + 0))) (24 + 4 * k + 1) (D 161 (4 * k + 1))) (24 + 4 * k + 2) (D 161 (4 * k + 2))) (24 + 4 * k + 3) (D 161 (4 * k + 3))) = _
      rw [lyt_sd]
      rfl
    rw [e]
    refine ⟨fun j hj => ?_, ?_, ?_⟩
    · by_cases q : j = k
      · subst q
        refine ⟨?_, ?_, ?_, ?_, fun i hi => ?_⟩
        · rw [am_up_ne (by omega), am_up_ne (by omega), am_up_ne (by omega), am_up_ne (by omega), am_up_ne (by omega), am_up_ne (by omega), am_up_ne (by omega), am_up_same]
        · rw [am_up_ne (by omega), am_up_ne (by omega), am_up_ne (by omega), am_up_ne (by omega), am_up_ne (by omega), am_up_ne (by omega), am_up_same]
        · rw [am_up_ne (by omega), am_up_ne (by omega), am_up_ne (by omega), am_up_ne (by omega), am_up_ne (by omega), am_up_same]
        · rw [am_up_ne (by omega), am_up_ne (by omega), am_up_ne (by omega), am_up_ne (by omega), am_up_same]
        · rcases (by omega : i = 0 ∨ i = 1 ∨ i = 2 ∨ i = 3) with rfl | rfl | rfl | rfl
          · rw [am_up_ne (by omega), am_up_ne (by omega), am_up_ne (by omega), am_up_same]
          · rw [am_up_ne (by omega), am_up_ne (by omega), am_up_same]
          · rw [am_up_ne (by omega), am_up_same]
          · rw [am_up_same]
      · obtain ⟨i1, i2, i3, i4, i5⟩ := ih.1 j (by omega)
        refine ⟨?_, ?_, ?_, ?_, fun i hi => ?_⟩
        · rw [am_up_ne (by omega), am_up_ne (by omega), am_up_ne (by omega), am_up_ne (by omega), am_up_ne (by omega), am_up_ne (by omega), am_up_ne (by omega), am_up_ne (by omega)]; exact i1
        · rw [am_up_ne (by omega), am_up_ne (by omega), am_up_ne (by omega), am_up_ne (by omega), am_up_ne (by omega), am_up_ne (by omega), am_up_ne (by omega), am_up_ne (by omega)]; exact i2
        · rw [am_up_ne (by omega), am_up_ne (by omega), am_up_ne (by omega), am_up_ne (by omega), am_up_ne (by omega), am_up_ne (by omega), am_up_ne (by omega), am_up_ne (by omega)]; exact i3
        · rw [am_up_ne (by omega), am_up_ne (by omega), am_up_ne (by omega), am_up_ne (by omega), am_up_ne (by omega), am_up_ne (by omega), am_up_ne (by omega), am_up_ne (by omega)]; exact i4
        · rw [am_up_ne (by omega), am_up_ne (by omega), am_up_ne (by omega), am_up_ne (by omega), am_up_ne (by omega), am_up_ne (by omega), am_up_ne (by omega), am_up_ne (by omega)]; exact i5 i hi
    · rw [am_up_ne (by omega), am_up_ne (by omega), am_up_ne (by omega), am_up_ne (by omega), am_up_ne (by omega), am_up_ne (by omega), am_up_ne (by omega), am_up_ne (by omega)]; exact ih.2.1
    · rw [am_up_ne (by omega), am_up_ne (by omega), am_up_ne (by omega), am_up_ne (by omega), am_up_ne (by omega), am_up_ne (by omega), am_up_ne (by omega), am_up_ne (by omega)]; exact ih.2.2
theorem rw_via {T T' : sp_T} (hn : nP_ T' = nP_ T) {v w : sp_V} {x y : Nat → Int} (h1 : RW_x T v x) (h2 : RW_x T v y) (h3 : RW_x T' w x) : RW_x T' w y := by
  refine ⟨by rw [h2.yr, ← h1.yr, h3.yr], fun p hp => ?_, fun p hp => ?_, fun p hp => ?_, fun p hp => ?_, fun p s hp hs => ?_⟩
  · rw [h2.ag p (by omega), ← h1.ag p (by omega), h3.ag p hp]
  · rw [h2.hw p (by omega), ← h1.hw p (by omega), h3.hw p hp]
  · rw [h2.pr p (by omega), ← h1.pr p (by omega), h3.pr p hp]
  · rw [h2.hd p (by omega), ← h1.hd p (by omega), h3.hd p hp]
  · rw [h2.lv p s (by omega) hs, ← h1.lv p s (by omega) hs, h3.lv p s hp hs]
theorem dn_zero {v : sp_V} : ∀ k, (∀ p, p < k → v (12 + p) = 0) → dn_ v k = 0
  | 0, _ => rfl
  | k + 1, h => by
    show (if v (12 + k) = 2 then dn_ v k ||| 2 ^ (v (6 + k)).toNat else dn_ v k) = 0
    rw [h k (by omega), if_neg (by decide)]
    exact dn_zero k (fun p hp => h p (by omega))
theorem G1_.fr {T : sp_T} {t : Nat} {σ σ' : am_S} (h : G1_ T t σ) (h1 : ∀ a, t ≤ a → a ≤ t + 30 → σ'.1 a = σ.1 a) (h2 : ∀ a, a ∈ [140, 141, 151, 152, 153, 154, 155, 156, 158, 162] → σ'.1 a = σ.1 a) (h3 : ∀ k, k ∈ g1F_ → σ'.1 135 k = σ.1 135 k) (h4 : σ'.2.2.1 0 2 = σ.2.2.1 0 2) (h5 : σ'.2.2.1 68 1 = σ.2.2.1 68 1) : G1_ T t σ' := by
  obtain ⟨ht, hT, hV, hX, r1, r2⟩ := h
  obtain ⟨a1, a2, a3, a4, a5, a6, a7, a8, a9, a10, a11, a12, a13, a14, a15, a16, a17, a18, a19⟩ := hT
  refine ⟨ht, ⟨?_, ?_, ?_, ?_, ?_, ?_, ?_, ?_, ?_, ?_, ?_, ?_, ?_, ?_, ?_, ?_, ?_, ?_, ?_⟩, hV, hX.fr h1, by rw [h4]; exact r1, by rw [h5]; exact r2⟩
  · rw [h2 140 (by decide)]; exact a1
  · rw [h2 141 (by decide)]; exact a2
  · rw [h2 151 (by decide)]; exact a3
  · rw [h2 152 (by decide)]; exact a4
  · rw [h2 153 (by decide)]; exact a5
  · rw [h2 154 (by decide)]; exact a6
  · rw [h2 155 (by decide)]; exact a7
  · rw [h2 156 (by decide)]; exact a8
  · rw [h2 158 (by decide)]; exact a9
  · rw [h2 162 (by decide)]; exact a10
  · rw [h3 18 (by decide)]; exact a11
  · rw [h3 21 (by decide)]; exact a12
  · rw [h3 50 (by decide)]; exact a13
  · rw [h3 51 (by decide)]; exact a14
  · rw [h3 52 (by decide)]; exact a15
  · rw [h3 53 (by decide)]; exact a16
  · rw [h3 54 (by decide)]; exact a17
  · rw [h3 55 (by decide)]; exact a18
  · rw [h3 60 (by decide)]; exact a19
def s7_ : List Nat := List.range' 2 31 ++ List.range' 34 31 ++ [66] ++ rfA_
theorem s7_in (a : Nat) (h : (2 ≤ a ∧ a ≤ 32) ∨ (34 ≤ a ∧ a ≤ 64) ∨ a = 66 ∨ a ∈ rfA_) : a ∈ s7_ := by
  unfold s7_
  simp only [List.mem_append, List.mem_range'_1, List.mem_singleton]
  rcases h with h | h | h | h
  · exact Or.inl (Or.inl (Or.inl (by omega)))
  · exact Or.inl (Or.inl (Or.inr (by omega)))
  · exact Or.inl (Or.inr h)
  · exact Or.inr h
theorem CG_.k8 {T : sp_T} {t : Nat} {b : Int} {a e : Nat} {hs : Nat → sp_V} {fb : Nat} {G : Nat → Nat → Int} {ng : Nat} {σ σ' : am_S} (h : CG_ T t b a e hs fb G ng σ) (hf : KF_ s7_ [1] (1 :: 5 :: rfF_) σ σ') (h1 : ∀ a, t ≤ a → a ≤ t + 30 → σ'.1 a = σ.1 a) (h7 : G7_ σ') (h8 : G8_ σ') : CG_ T t b a e hs fb G ng σ' := by
  obtain ⟨g1, g2, g3, g4, g5, g6, _, _, g9, g10⟩ := h
  exact ⟨g1.fr h1 (fun a ha => hf.1 a (by revert ha; revert a; decide +kernel) (by revert ha; revert a; decide) (by revert ha; revert a; decide)) (fun k hk => hf.2.2.1 k (by revert hk; revert k; decide)) hf.2.2.2.2.1 hf.2.2.2.2.2.1, g2.kf hf (by decide +kernel) (by decide) (by decide), g3.kf hf (by decide +kernel) (by decide), g4.kf hf (by decide +kernel) (by decide), g5.kf hf (by decide) (by decide), g6.kf hf (by decide +kernel) (by decide) (by decide), h7, h8, g9.kf hf (by decide +kernel) (by decide), g10.kf hf⟩
