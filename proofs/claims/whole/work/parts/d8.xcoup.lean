/-- what a call may change: rows A, fields F0 of the class, fields F5 of the reference -/
def KF_ (A F0 F5 : List Nat) (σ σ' : am_S) : Prop := (∀ a, a ∉ A → a ≠ 0 → a ≠ 135 → σ'.1 a = σ.1 a) ∧ (∀ k, k ∉ F0 → σ'.1 0 k = σ.1 0 k) ∧ (∀ k, k ∉ F5 → σ'.1 135 k = σ.1 135 k) ∧ σ'.2.1 67 = σ.2.1 67 ∧ σ'.2.2.1 0 2 = σ.2.2.1 0 2 ∧ σ'.2.2.1 68 1 = σ.2.2.1 68 1 ∧ σ'.2.2.2 = σ.2.2.2
theorem kf_rf (A F0 F5 : List Nat) (σ : am_S) : KF_ A F0 F5 σ σ := ⟨fun _ _ _ _ => rfl, fun _ _ => rfl, fun _ _ => rfl, rfl, rfl, rfl, rfl⟩
theorem KF_.tr {A F0 F5 : List Nat} {σ σ1 σ2 : am_S} (h1 : KF_ A F0 F5 σ σ1) (h2 : KF_ A F0 F5 σ1 σ2) : KF_ A F0 F5 σ σ2 := ⟨fun a ha h0 h5 => by rw [h2.1 a ha h0 h5, h1.1 a ha h0 h5], fun k hk => by rw [h2.2.1 k hk, h1.2.1 k hk], fun k hk => by rw [h2.2.2.1 k hk, h1.2.2.1 k hk], by rw [h2.2.2.2.1, h1.2.2.2.1], by rw [h2.2.2.2.2.1, h1.2.2.2.2.1], by rw [h2.2.2.2.2.2.1, h1.2.2.2.2.2.1], by rw [h2.2.2.2.2.2.2, h1.2.2.2.2.2.2]⟩
theorem KF_.su {A F0 F5 A' F0' F5' : List Nat} {σ σ' : am_S} (h : KF_ A F0 F5 σ σ') (a : ∀ x, x ∈ A → x ∈ A') (b : ∀ x, x ∈ F0 → x ∈ F0') (c : ∀ x, x ∈ F5 → x ∈ F5') : KF_ A' F0' F5' σ σ' := ⟨fun x hx h0 h5 => h.1 x (fun q => hx (a x q)) h0 h5, fun k hk => h.2.1 k (fun q => hk (b k q)), fun k hk => h.2.2.1 k (fun q => hk (c k q)), h.2.2.2⟩
theorem kf_xf {A F0 F5 B : List Nat} {σ σ' : am_S} (h : xf_ A σ σ') (hA : ∀ a, a ∈ A → a ∈ B) (h0 : 0 ∉ A) (h5 : 135 ∉ A) : KF_ B F0 F5 σ σ' := ⟨fun a ha _ _ => h.1 a (fun q => ha (hA a q)), fun k _ => by rw [h.1 0 h0], fun k _ => by rw [h.1 135 h5], by rw [h.2.1], h.2.2.1 0 2 (by decide), h.2.2.1 68 1 (by decide), h.2.2.2⟩
theorem kf_l0 {A F5 B : List Nat} {σ σ' : am_S} (h : l0_ A σ σ') (hA : ∀ a, a ∈ A → a ∈ B) (h5 : 135 ∉ A) : KF_ B [14] F5 σ σ' := ⟨fun a ha h0 _ => h.1 a (fun q => ha (hA a q)) h0, fun k hk => h.2.1 k (by simpa using hk), fun k _ => by rw [h.1 135 h5 (by decide)], by rw [h.2.2], by rw [h.2.2], by rw [h.2.2], by rw [h.2.2]⟩
theorem kf_fr {A F0 F5 B : List Nat} {σ σ' : am_S} (h : fr_ A σ σ') (hA : ∀ a, a ∈ A → a ∈ B) (h0 : 0 ∉ A) (h5 : 135 ∉ A) : KF_ B F0 F5 σ σ' := ⟨fun a ha _ _ => h.1 a (fun q => ha (hA a q)), fun k _ => by rw [h.1 0 h0], fun k _ => by rw [h.1 135 h5], by rw [h.2], by rw [h.2], by rw [h.2], by rw [h.2]⟩
theorem kf_fq {A F F0 B F5 : List Nat} {σ σ' : am_S} (h : fq_ A F σ σ') (hA : ∀ a, a ∈ A → a ∈ B) (h0 : 0 ∉ A) (hF : ∀ k, k ∈ F → k ∈ F5) : KF_ B F0 F5 σ σ' := ⟨fun a ha _ h5 => h.1 a (fun q => ha (hA a q)) h5, fun k _ => by rw [h.1 0 h0 (by decide)], fun k hk => h.2.1 k (fun q => hk (hF k q)), by rw [h.2.2], by rw [h.2.2], by rw [h.2.2], by rw [h.2.2]⟩
def hl_ : List Nat := [33, 65, 69, 72] ++ List.range' 74 41
theorem kf_hz {t : Nat} {F0 F5 B : List Nat} {σ σ' : am_S} (ht : t = 2 ∨ t = 34) (h : hz_ t σ σ') (hB : ∀ a, a ∈ hl_ → a ∈ B) : KF_ B F0 F5 σ σ' := by
  have e : ∀ a, a ∉ B → σ'.1 a = σ.1 a := fun a ha => by
    have h1 : a ∉ hl_ := fun q => ha (hB a q)
    have h2 : a ≠ 69 ∧ a ≠ 72 ∧ a ≠ 33 ∧ a ≠ 65 ∧ (a < 74 ∨ 114 < a) := by
      unfold hl_ at h1
      simp [List.mem_range'_1] at h1
      omega
    exact h.1 a h2.1 h2.2.1 (by omega) h2.2.2.2.2
  have e0 : σ'.1 0 = σ.1 0 := h.1 0 (by decide) (by decide) (by omega) (by decide)
  have e5 : σ'.1 135 = σ.1 135 := h.1 135 (by decide) (by decide) (by omega) (by decide)
  exact ⟨fun a ha _ _ => e a ha, fun k _ => by rw [e0], fun k _ => by rw [e5], by rw [h.2], by rw [h.2], by rw [h.2], by rw [h.2]⟩
theorem kf_hs {F0 F5 B : List Nat} {σ σ' : am_S} (h : hs_ σ σ') (hB : ∀ a, 127 ≤ a → a ≤ 133 → a ∈ B) : KF_ B F0 F5 σ σ' := ⟨fun a ha _ _ => h.1 a (by by_cases q : 127 ≤ a ∧ a ≤ 133; exact absurd (hB a q.1 q.2) ha; omega), fun k _ => by rw [h.1 0 (by decide)], fun k _ => by rw [h.1 135 (by decide)], by rw [h.2], by rw [h.2], by rw [h.2], by rw [h.2]⟩
theorem kf_s0 {A F5 : List Nat} {σ : am_S} {F0 : List Nat} {k : Nat} {z : Int} (hk : k ∈ F0) : KF_ A F0 F5 σ (am_sI σ 0 (am_up (σ.1 0) k z)) := ⟨fun a _ h0 _ => sI_ne h0, fun j hj => by rw [sI_at, am_up_ne (fun q => hj (by rw [q]; exact hk))], fun j _ => by rw [sI_ne (by decide)], rfl, rfl, rfl, rfl⟩
theorem kf_s5 {A F0 : List Nat} {σ : am_S} {F5 : List Nat} {k : Nat} {z : Int} (hk : k ∈ F5) : KF_ A F0 F5 σ (am_sI σ 135 (am_up (σ.1 135) k z)) := ⟨fun a _ _ h5 => sI_ne h5, fun j _ => by rw [sI_ne (by decide)], fun j hj => by rw [sI_at, am_up_ne (fun q => hj (by rw [q]; exact hk))], rfl, rfl, rfl, rfl⟩
theorem kf_sI {A F0 F5 : List Nat} {σ : am_S} {a : Nat} {f : Nat → Int} (ha : a ∈ A) (h0 : a ≠ 0) (h5 : a ≠ 135) : KF_ A F0 F5 σ (am_sI σ a f) := ⟨fun b hb _ _ => sI_ne (fun q => hb (by rw [q]; exact ha)), fun j _ => by rw [sI_ne h0.symm], fun j _ => by rw [sI_ne h5.symm], rfl, rfl, rfl, rfl⟩
/-- a row within its bounds -/
def GR_ (T : sp_T) (b : Int) (v : sp_V) : Prop := VV_ T b v ∧ v 49 ≤ 999 ∧ DN_ T v
theorem GR_.le {T : sp_T} {b b' : Int} {v : sp_V} (h : GR_ T b v) (hb : b ≤ b') : GR_ T b' v := ⟨h.1.le hb, h.2⟩
theorem GR_.cg {T : sp_T} {b : Int} {v w : sp_V} (hV : TV_ T) (h : GR_ T b w) (e : ∀ j, j < 50 → v j = w j) : GR_ T b v := ⟨h.1.cg hV e, by rw [e 49 (by decide)]; exact h.2.1, h.2.2.cg (fun p hp => ⟨e _ (by have := hV.nP.2; omega), e _ (by have := hV.nP.2; omega)⟩) (e 48 (by decide))⟩
def g1A_ : List Nat := List.range' 2 31 ++ List.range' 34 31 ++ [140, 141, 151, 152, 153, 154, 155, 156, 158, 162]
def g1F_ : List Nat := [18, 21, 50, 51, 52, 53, 54, 55, 60]
def G1_ (T : sp_T) (t : Nat) (σ : am_S) : Prop := (t = 2 ∨ t = 34) ∧ TM_ T σ ∧ TV_ T ∧ XT_ t T σ ∧ σ.2.2.1 0 2 = some (36 - t) ∧ σ.2.2.1 68 1 = some t
theorem g1_in (a : Nat) (h : (2 ≤ a ∧ a ≤ 32) ∨ (34 ≤ a ∧ a ≤ 64)) : a ∈ g1A_ := by
  unfold g1A_
  simp [List.mem_range'_1]
  omega
theorem G1_.kf {T : sp_T} {t : Nat} {σ σ' : am_S} {A F0 F5 : List Nat} (h : G1_ T t σ) (hf : KF_ A F0 F5 σ σ') (hA : ∀ a, a ∈ g1A_ → a ∉ A) (hF : ∀ k, k ∈ g1F_ → k ∉ F5) : G1_ T t σ' := by
  obtain ⟨ht, hT, hV, hX, r1, r2⟩ := h
  have e : ∀ a, a ∈ g1A_ → a ≠ 0 → a ≠ 135 → σ'.1 a = σ.1 a := fun a ha h0 h5 => hf.1 a (hA a ha) h0 h5
  have e5 : ∀ k, k ∈ g1F_ → σ'.1 135 k = σ.1 135 k := fun k hk => hf.2.2.1 k (hF k hk)
  obtain ⟨a1, a2, a3, a4, a5, a6, a7, a8, a9, a10, a11, a12, a13, a14, a15, a16, a17, a18, a19⟩ := hT
  refine ⟨ht, ⟨?_, ?_, ?_, ?_, ?_, ?_, ?_, ?_, ?_, ?_, ?_, ?_, ?_, ?_, ?_, ?_, ?_, ?_, ?_⟩, hV, hX.fr (fun a h1 h2 => e a (g1_in a (by omega)) (by omega) (by omega)), by rw [hf.2.2.2.2.1]; exact r1, by rw [hf.2.2.2.2.2.1]; exact r2⟩
  · rw [e 140 (by decide) (by decide) (by decide)]; exact a1
  · rw [e 141 (by decide) (by decide) (by decide)]; exact a2
  · rw [e 151 (by decide) (by decide) (by decide)]; exact a3
  · rw [e 152 (by decide) (by decide) (by decide)]; exact a4
  · rw [e 153 (by decide) (by decide) (by decide)]; exact a5
  · rw [e 154 (by decide) (by decide) (by decide)]; exact a6
  · rw [e 155 (by decide) (by decide) (by decide)]; exact a7
  · rw [e 156 (by decide) (by decide) (by decide)]; exact a8
  · rw [e 158 (by decide) (by decide) (by decide)]; exact a9
  · rw [e 162 (by decide) (by decide) (by decide)]; exact a10
  · rw [e5 18 (by decide)]; exact a11
  · rw [e5 21 (by decide)]; exact a12
  · rw [e5 50 (by decide)]; exact a13
  · rw [e5 51 (by decide)]; exact a14
  · rw [e5 52 (by decide)]; exact a15
  · rw [e5 53 (by decide)]; exact a16
  · rw [e5 54 (by decide)]; exact a17
  · rw [e5 55 (by decide)]; exact a18
  · rw [e5 60 (by decide)]; exact a19
theorem MH_.cg {a e : Nat} {hs : Nat → sp_V} {σ σ' : am_S} (h : MH_ a e hs σ) (h1 : σ'.1 135 64 = σ.1 135 64) (h2 : σ'.1 135 65 = σ.1 135 65) (h3 : σ'.1 165 = σ.1 165) (h4 : σ'.1 163 = σ.1 163) : MH_ a e hs σ' := by
  unfold MH_
  rw [h1, h2, h3, h4]
  exact h
def g2A_ : List Nat := [163, 69, 165, 72] ++ List.range' 74 41
def G2_ (T : sp_T) (b : Int) (a e : Nat) (hs : Nat → sp_V) (σ : am_S) : Prop := RW_x T (σ.1 163) (σ.1 69) ∧ GR_ T b (σ.1 163) ∧ MH_ a e hs σ ∧ XH_ T a e hs σ ∧ ∀ i, i ≤ a + e → GR_ T b (hs i)
theorem G2_.le {T : sp_T} {b b' : Int} {a e : Nat} {hs : Nat → sp_V} {σ : am_S} (h : G2_ T b a e hs σ) (hb : b ≤ b') : G2_ T b' a e hs σ := ⟨h.1, h.2.1.le hb, h.2.2.1, h.2.2.2.1, fun i hi => (h.2.2.2.2 i hi).le hb⟩
theorem G2_.kf {T : sp_T} {b : Int} {a e : Nat} {hs : Nat → sp_V} {σ σ' : am_S} {A F0 F5 : List Nat} (h : G2_ T b a e hs σ) (hf : KF_ A F0 F5 σ σ') (hA : ∀ a, a ∈ g2A_ → a ∉ A) (h64 : 64 ∉ F5) (h65 : 65 ∉ F5) : G2_ T b a e hs σ' := by
  have e163 := hf.1 163 (hA _ (by decide)) (by decide) (by decide)
  obtain ⟨a1, a2, a3, a4, a5⟩ := h
  refine ⟨by rw [e163, hf.1 69 (hA _ (by decide)) (by decide) (by decide)]; exact a1, by rw [e163]; exact a2, a3.cg (hf.2.2.1 _ h64) (hf.2.2.1 _ h65) (hf.1 165 (hA _ (by decide)) (by decide) (by decide)) e163, a4.cg (fun q hq => hf.1 q (hA q ?_) (by omega) (by omega)), a5⟩
  unfold g2A_
  simp [List.mem_range'_1]
  omega
def G3_ (T : sp_T) (b : Int) (fb : Nat) (σ : am_S) : Prop := (∀ q, q < 3 → σ.1 176 q = 0 ∨ σ.1 176 q = 1) ∧ XB_ T fb (fun q j => σ.1 177 (50 * q + j)) σ ∧ ∀ q, q < 3 → (fb.testBit q = true ↔ σ.1 176 q = 1) ∧ (σ.1 176 q = 1 → GR_ T b (fun j => σ.1 177 (50 * q + j)))
theorem G3_.le {T : sp_T} {b b' : Int} {fb : Nat} {σ : am_S} (h : G3_ T b fb σ) (hb : b ≤ b') : G3_ T b' fb σ := ⟨h.1, h.2.1, fun q hq => ⟨(h.2.2 q hq).1, fun w => ((h.2.2 q hq).2 w).le hb⟩⟩
theorem G3_.kf {T : sp_T} {b : Int} {fb : Nat} {σ σ' : am_S} {A F0 F5 : List Nat} (h : G3_ T b fb σ) (hf : KF_ A F0 F5 σ σ') (hA : ∀ a, a ∈ [176, 177, 116, 117, 118] → a ∉ A) (h8 : 8 ∉ F0) : G3_ T b fb σ' := by
  have e6 := hf.1 176 (hA _ (by decide)) (by decide) (by decide)
  have e7 := hf.1 177 (hA _ (by decide)) (by decide) (by decide)
  obtain ⟨a1, a2, a3⟩ := h
  unfold G3_
  rw [e6, e7]
  refine ⟨a1, ⟨by rw [hf.2.1 8 h8]; exact a2.1, a2.2.1, fun q hq hb => ?_⟩, a3⟩
  rw [hf.1 (116 + q) (hA _ (by rcases (by omega : q = 0 ∨ q = 1 ∨ q = 2) with rfl | rfl | rfl <;> decide)) (by omega) (by omega)]
  exact a2.2.2 q hq hb
def G4_ (G : Nat → Nat → Int) (ng : Nat) (σ : am_S) : Prop := SG_ G ng σ ∧ XS_ G ng σ
theorem G4_.kf {G : Nat → Nat → Int} {ng : Nat} {σ σ' : am_S} {A F0 F5 : List Nat} (h : G4_ G ng σ) (hf : KF_ A F0 F5 σ σ') (hA : ∀ a, a ∈ [170, 171, 172, 173, 174, 175, 127, 128, 129, 130, 131, 132, 133] → a ∉ A) (h77 : 77 ∉ F5) : G4_ G ng σ' := by
  obtain ⟨⟨a1, a2, ⟨b1, b2, b3, b4, b5, b6⟩, a4⟩, hS⟩ := h
  refine ⟨⟨by rw [hf.2.2.1 77 h77]; exact a1, a2, ⟨?_, ?_, ?_, ?_, ?_, ?_⟩, a4⟩, hS.cg (fun q h1 h2 => hf.1 q (hA q (by simp; omega)) (by omega) (by omega))⟩
  · rw [hf.1 170 (hA _ (by decide)) (by decide) (by decide)]; exact b1
  · rw [hf.1 171 (hA _ (by decide)) (by decide) (by decide)]; exact b2
  · rw [hf.1 172 (hA _ (by decide)) (by decide) (by decide)]; exact b3
  · rw [hf.1 173 (hA _ (by decide)) (by decide) (by decide)]; exact b4
  · rw [hf.1 174 (hA _ (by decide)) (by decide) (by decide)]; exact b5
  · rw [hf.1 175 (hA _ (by decide)) (by decide) (by decide)]; exact b6
def G5_ (σ : am_S) : Prop := ∃ tm : Nat, tm ≤ 100000 ∧ σ.1 0 12 = (tm : Int) ∧ σ.1 135 78 = (tm : Int)
theorem G5_.kf {σ σ' : am_S} {A F0 F5 : List Nat} (h : G5_ σ) (hf : KF_ A F0 F5 σ σ') (h12 : 12 ∉ F0) (h78 : 78 ∉ F5) : G5_ σ' := by
  obtain ⟨tm, a1, a2, a3⟩ := h
  exact ⟨tm, a1, by rw [hf.2.1 12 h12]; exact a2, by rw [hf.2.2.1 78 h78]; exact a3⟩
def G6_ (σ : am_S) : Prop := ∃ l : Nat, l ≤ 6 ∧ σ.1 0 14 = (l : Int) ∧ σ.1 135 68 = (l : Int) ∧ ∀ k, k < l → σ.1 134 k = σ.1 167 k
theorem G6_.kf {σ σ' : am_S} {A F0 F5 : List Nat} (h : G6_ σ) (hf : KF_ A F0 F5 σ σ') (hA : ∀ a, a ∈ [134, 167] → a ∉ A) (h14 : 14 ∉ F0) (h68 : 68 ∉ F5) : G6_ σ' := by
  obtain ⟨l, a1, a2, a3, a4⟩ := h
  exact ⟨l, a1, by rw [hf.2.1 14 h14]; exact a2, by rw [hf.2.2.1 68 h68]; exact a3, by rw [hf.1 134 (hA _ (by decide)) (by decide) (by decide), hf.1 167 (hA _ (by decide)) (by decide) (by decide)]; exact a4⟩
def G7_ (σ : am_S) : Prop := ∃ n : Nat, n ≤ 1600 ∧ TP_ (σ.1 1) (σ.1 136) n ∧ σ.1 0 1 = (n : Int) ∧ σ.1 135 1 = (n : Int)
theorem G7_.kf {σ σ' : am_S} {A F0 F5 : List Nat} (h : G7_ σ) (hf : KF_ A F0 F5 σ σ') (hA : ∀ a, a ∈ [1, 136] → a ∉ A) (h0 : 1 ∉ F0) (h5 : 1 ∉ F5) : G7_ σ' := by
  obtain ⟨n, a1, a2, a3, a4⟩ := h
  exact ⟨n, a1, by rw [hf.1 1 (hA _ (by decide)) (by decide) (by decide), hf.1 136 (hA _ (by decide)) (by decide) (by decide)]; exact a2, by rw [hf.2.1 1 h0]; exact a3, by rw [hf.2.2.1 1 h5]; exact a4⟩
def G8_ (σ : am_S) : Prop := σ.1 66 0 = σ.1 135 2 ∧ σ.1 66 1 = σ.1 135 3
theorem G8_.kf {σ σ' : am_S} {A F0 F5 : List Nat} (h : G8_ σ) (hf : KF_ A F0 F5 σ σ') (hA : 66 ∉ A) (h2 : 2 ∉ F5) (h3 : 3 ∉ F5) : G8_ σ' := by
  unfold G8_
  rw [hf.1 66 hA (by decide) (by decide), hf.2.2.1 2 h2, hf.2.2.1 3 h3]
  exact h
def G9_ (σ : am_S) : Prop := σ.1 68 2 = σ.1 135 56
theorem G9_.kf {σ σ' : am_S} {A F0 F5 : List Nat} (h : G9_ σ) (hf : KF_ A F0 F5 σ σ') (hA : 68 ∉ A) (h5 : 56 ∉ F5) : G9_ σ' := by
  unfold G9_
  rw [hf.1 68 hA (by decide) (by decide), hf.2.2.1 56 h5]
  exact h
theorem WT_.kf {σ σ' : am_S} {A F0 F5 : List Nat} (h : WT_ σ) (hf : KF_ A F0 F5 σ σ') : WT_ σ' := fun i hi => by rw [hf.2.2.2.1]; exact h i hi
/-- the class and the reference agree -/
def CG_ (T : sp_T) (t : Nat) (b : Int) (a e : Nat) (hs : Nat → sp_V) (fb : Nat) (G : Nat → Nat → Int) (ng : Nat) (σ : am_S) : Prop := G1_ T t σ ∧ G2_ T b a e hs σ ∧ G3_ T b fb σ ∧ G4_ G ng σ ∧ G5_ σ ∧ G6_ σ ∧ G7_ σ ∧ G8_ σ ∧ G9_ σ ∧ WT_ σ
def CP_ (b : Int) (σ : am_S) : Prop := ∃ T t a e hs fb G ng, CG_ T t b a e hs fb G ng σ
def sc_ : List Nat := [33, 65, 70, 71, 119, 120, 121, 122, 123, 124, 125, 126, 137, 138, 139, 142, 143, 144, 145, 146, 147, 148, 149, 150, 157, 159, 160, 161, 164, 166, 168, 169]
theorem CG_.kf {T : sp_T} {t : Nat} {b : Int} {a e : Nat} {hs : Nat → sp_V} {fb : Nat} {G : Nat → Nat → Int} {ng : Nat} {σ σ' : am_S} (h : CG_ T t b a e hs fb G ng σ) (hf : KF_ sc_ [] [] σ σ') : CG_ T t b a e hs fb G ng σ' := by
  obtain ⟨h1, h2, h3, h4, h5, h6, h7, h8, h9, h10⟩ := h
  exact ⟨h1.kf hf (by decide +kernel) (by simp), h2.kf hf (by decide +kernel) (by simp) (by simp), h3.kf hf (by decide +kernel) (by simp), h4.kf hf (by decide +kernel) (by simp), h5.kf hf (by simp) (by simp), h6.kf hf (by decide +kernel) (by simp) (by simp), h7.kf hf (by decide +kernel) (by simp) (by simp), h8.kf hf (by decide +kernel) (by simp) (by simp), h9.kf hf (by decide +kernel) (by simp), h10.kf hf⟩
theorem CG_.cp {T : sp_T} {t : Nat} {b b' : Int} {a e : Nat} {hs : Nat → sp_V} {fb : Nat} {G : Nat → Nat → Int} {ng : Nat} {σ : am_S} (h : CG_ T t b a e hs fb G ng σ) (hb : b ≤ b') : CP_ b' σ := ⟨T, t, a, e, hs, fb, G, ng, h.1, h.2.1.le hb, h.2.2.1.le hb, h.2.2.2⟩
/-- a call of the class and the same of the reference: they answer alike -/
def CC_ (d nx nm : Nat) (as : List am_V) (b : Int) (σ : am_S) : Prop := am_Ev d nx (am_R 0 :: as) σ (fun r σ1 => ∃ z, r = some (am_I z) ∧ σ1.2.2.2 = σ.2.2.2 ∧ am_Ev d nm (am_R 135 :: as) σ1 (fun r2 σ2 => r2 = some (am_I z) ∧ CP_ (b + 1) σ2 ∧ σ2.2.2.2 = σ.2.2.2))
theorem CG_.pl {T : sp_T} {t : Nat} {b : Int} {a e : Nat} {hs : Nat → sp_V} {fb : Nat} {G : Nat → Nat → Int} {ng : Nat} {σ : am_S} (h : CG_ T t b a e hs fb G ng σ) {v : sp_V} (hv : ∀ j, j < 50 → v j = σ.1 163 j) : PL_ 68 t T v σ ∧ GR_ T b v := ⟨⟨Or.inl rfl, h.1.2.2.2.2.2, h.1.2.2.2.1, h.2.1.1.cg h.1.2.2.1.nP.2 hv⟩, h.2.1.2.1.cg h.1.2.2.1 hv⟩
