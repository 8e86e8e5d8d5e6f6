theorem erase_f {M : List Nat} (hn : M.Nodup) (u x : Nat) : (M.filter (fun m => !u.testBit m)).erase x = M.filter (fun m => !(u ||| 2 ^ x).testBit m) := by
  rw [List.Nodup.erase_eq_filter (hn.filter _), List.filter_filter]
  congr 1
  funext m
  rw [Nat.testBit_or, Nat.testBit_two_pow]
  by_cases q : m = x
  · subst q; cases u.testBit m <;> simp
  · have q2 : ¬ x = m := fun e => q e.symm
    cases u.testBit m <;> simp [q, q2]
theorem getD_lt {l : List Nat} {b : Nat} (hb : 0 < b) (h : ∀ k, l.getD k 0 < b) (p : Nat → Bool) : ∀ k, (l.filter p).getD k 0 < b := by
  intro k
  rw [List.getD_eq_getElem?_getD]
  cases q : (l.filter p)[k]? with
  | none => simpa using hb
  | some x =>
    have hx : x ∈ l := (List.mem_filter.mp (List.mem_of_getElem? q)).1
    obtain ⟨i, hi, e⟩ := List.getElem_of_mem hx
    have := h i
    rw [List.getD_eq_getElem?_getD, List.getElem?_eq_getElem hi] at this
    simp only [Option.getD_some] at this ⊢
    omega
def mxb_ (b n : Nat) : Nat := max 1 (b / n)
theorem tt_s (n : Nat) (left : List Nat) (b r : Nat) : tt_ (n + 1) left b r = left.getD (r / mxb_ b (n + 1)) 0 :: tt_ n (left.erase (left.getD (r / mxb_ b (n + 1)) 0)) (mxb_ b (n + 1)) (r % mxb_ b (n + 1)) := rfl
theorem mxb_bd (b n : Nat) (hb : b ≤ 720) : 1 ≤ mxb_ b n ∧ mxb_ b n ≤ 720 := by
  have := Nat.div_le_self b n
  unfold mxb_
  omega

theorem xl_turn {d : Nat} (hd : 1 ≤ d) {σ : am_S} {M : List Nat} (hM : RS5_ M σ) (hnd : M.Nodup) {num : Nat} {W : List Nat} {Q : Option am_V → am_S → Prop} (hQ : ∀ σ', fr_ [126] σ σ' → (∀ k, k < M.length → σ'.1 126 k = (W.getD k 0 : Int)) → Q none σ') : ∀ (m k r u b : Nat) (pre : List Nat), k + m = M.length → ∀ σ', fr_ [126] σ σ' → r ≤ 720 → u < 64 → b ≤ 720 → pre.length = k → W = pre ++ tt_ m (M.filter (fun m => !u.testBit m)) b r → (∀ j, j < k → σ'.1 126 j = (pre.getD j 0 : Int)) → aW d 4 k_X5_turnTo Q 13 [some (am_R 123), some (am_I ((num : Nat) : Int)), some (am_I ((r : Nat) : Int)), some (am_I ((u : Nat) : Int)), some (am_I ((b : Nat) : Int)), some (am_I ((k : Nat) : Int))] [] σ' := by
  intro m
  induction m with
  | zero =>
    intro k r u b pre hk σ' hf hr hu hb hpl hW hrow
    obtain hk2 : k = M.length := by omega
    subst hk2
    have hM2 := hM.fr hf (by decide) (by decide)
    refine ax_load (q := 15) rfl rfl rfl rfl rfl ?_
    refine ax_load (q := 16) rfl rfl rfl rfl rfl ?_
    refine ax_getf (q := 19) (v := am_I ((M.length : Nat) : Int)) rfl rfl (am_fg rfl hM2.1) ?_
    refine ax_icmp_ge (q := 22) (x := 77) rfl rfl (fun h19 => ?_) (fun h => absurd h (by omega))
    refine ax_ret (r := none) rfl rfl ?_
    refine hQ _ hf (fun j hj => ?_)
    rw [hrow j hj, hW]
    show _ = (((pre ++ []).getD j 0 : Nat) : Int)
    rw [List.append_nil]
  | succ m ih =>
    intro k r u b pre hk σ' hf hr hu hb hpl hW hrow
    have hM2 := hM.fr hf (by decide) (by decide)
    have h6 := hM.2.1
    obtain ⟨B, hB⟩ : ∃ B, B = mxb_ b (m + 1) := ⟨_, rfl⟩
    have hBb := mxb_bd b (m + 1) hb
    rw [← hB] at hBb
    obtain ⟨left, hleft⟩ : ∃ l, l = M.filter (fun m => !u.testBit m) := ⟨_, rfl⟩
    obtain ⟨x, hx⟩ : ∃ x, x = left.getD (r / B) 0 := ⟨_, rfl⟩
    have hx6 : x < 6 := by rw [hx, hleft]; exact getD_lt (by decide) hM.2.2.2 _ _
    have hrB : r / B ≤ r := Nat.div_le_self _ _
    have hp2 : 2 ^ x < 2 ^ 6 := Nat.pow_lt_pow_right (by decide) hx6
    have hu2 : u ||| 2 ^ x < 2 ^ 6 := Nat.or_lt_two_pow (by omega) hp2
    rw [tt_s, ← hB, ← hleft, ← hx, hleft, erase_f hnd] at hW
    have hsz : M.length - k = m + 1 := by omega
    have hbd := Nat.div_le_self b (m + 1)
    refine ax_load (q := 15) rfl rfl rfl rfl rfl ?_
    refine ax_load (q := 16) rfl rfl rfl rfl rfl ?_
    refine ax_getf (q := 19) (v := am_I ((M.length : Nat) : Int)) rfl rfl (am_fg rfl hM2.1) ?_
    refine ax_icmp_ge (q := 22) (x := 77) rfl rfl (fun h => absurd h (by omega)) (fun h19 => ?_)
    refine ax_const (q := 23) (v := am_I 1) rfl rfl rfl ?_
    refine ax_load (q := 25) rfl rfl rfl rfl rfl ?_
    refine ax_load (q := 26) rfl rfl rfl rfl rfl ?_
    refine ax_getf (q := 29) (v := am_I ((M.length : Nat) : Int)) rfl rfl (am_fg rfl hM2.1) ?_
    refine ax_load (q := 31) rfl rfl rfl rfl rfl ?_
    refine ax_isub (q := 32) (z := ((M.length : Nat) : Int) - ((k : Nat) : Int)) rfl rfl (am_we rfl (by omega) (by omega)) ?_
    refine ax_idiv (q := 33) (z := ((b / (m + 1) : Nat) : Int)) rfl rfl (by omega) (by rw [show ((M.length : Nat) : Int) - ((k : Nat) : Int) = ((m + 1 : Nat) : Int) by omega]; exact am_div_nat (by omega) (by omega) (by omega)) ?_
    refine ax_max (q := 36) (z := ((B : Nat) : Int)) rfl rfl rfl (by rw [hB]; unfold mxb_; split <;> omega) ?_
    refine ax_store (q := 38) (L' := [some (am_R 123), some (am_I ((num : Nat) : Int)), some (am_I ((r : Nat) : Int)), some (am_I ((u : Nat) : Int)), some (am_I ((B : Nat) : Int)), some (am_I ((k : Nat) : Int))]) rfl rfl rfl rfl rfl rfl ?_
    refine ax_load (q := 39) rfl rfl rfl rfl rfl ?_
    refine ax_getf (q := 42) (v := am_R 126) rfl rfl (rfl) ?_
    refine ax_load (q := 44) rfl rfl rfl rfl rfl ?_
    refine ax_load (q := 45) rfl rfl rfl rfl rfl ?_
    refine ax_load (q := 46) rfl rfl rfl rfl rfl ?_
    refine ax_load (q := 47) rfl rfl rfl rfl rfl ?_
    refine ax_load (q := 49) rfl rfl rfl rfl rfl ?_
    refine ax_idiv (q := 50) (z := ((r / B : Nat) : Int)) rfl rfl (by omega) (am_div_nat (by omega) (by omega) (by omega)) ?_
    refine ax_callv (q := 53) rfl rfl rfl rfl rfl rfl ?_
    refine x_memberLeft (by omega) hM2 (by omega) (by omega) ?_
    rw [← hleft, ← hx]
    refine bx_iast (q := 54) (k := k) rfl rfl (rfl) (by omega) (by omega) ?_
    refine ax_load (q := 55) rfl rfl rfl rfl rfl ?_
    refine ax_const (q := 56) (v := am_I 1) rfl rfl rfl ?_
    refine ax_load (q := 57) rfl rfl rfl rfl rfl ?_
    refine ax_getf (q := 60) (v := am_R 126) rfl rfl (rfl) ?_
    refine ax_load (q := 62) rfl rfl rfl rfl rfl ?_
    refine bx_iald (q := 63) (k := k) (z := ((x : Nat) : Int)) rfl rfl (rfl) (by omega) (by omega) (by rw [sI_at, am_up_same]) ?_
    refine ax_ishl (q := 64) (z := ((2 ^ x : Nat) : Int)) rfl rfl (am_shl1 x (by omega)) ?_
    refine ax_ior (q := 65) (z := ((u ||| 2 ^ x : Nat) : Int)) rfl rfl (am_or_nat (by omega) (by omega)) ?_
    refine ax_store (q := 66) (L' := [some (am_R 123), some (am_I ((num : Nat) : Int)), some (am_I ((r : Nat) : Int)), some (am_I ((u ||| 2 ^ x : Nat) : Int)), some (am_I ((B : Nat) : Int)), some (am_I ((k : Nat) : Int))]) rfl rfl rfl rfl rfl rfl ?_
    refine ax_load (q := 67) rfl rfl rfl rfl rfl ?_
    refine ax_load (q := 69) rfl rfl rfl rfl rfl ?_
    refine ax_irem (q := 70) (z := ((r % B : Nat) : Int)) rfl rfl (by omega) (am_rem_nat (by omega) (by omega) (by omega)) ?_
    refine ax_store (q := 71) (L' := [some (am_R 123), some (am_I ((num : Nat) : Int)), some (am_I ((r % B : Nat) : Int)), some (am_I ((u ||| 2 ^ x : Nat) : Int)), some (am_I ((B : Nat) : Int)), some (am_I ((k : Nat) : Int))]) rfl rfl rfl rfl rfl rfl ?_
    refine ax_iinc (q := 74) (z' := ((k + 1 : Nat) : Int)) (L' := [some (am_R 123), some (am_I ((num : Nat) : Int)), some (am_I ((r % B : Nat) : Int)), some (am_I ((u ||| 2 ^ x : Nat) : Int)), some (am_I ((B : Nat) : Int)), some (am_I ((k + 1 : Nat) : Int))]) rfl rfl rfl rfl (am_we (by omega) (by omega) (by omega)) rfl ?_
    refine ax_goto (x := 13) rfl ?_
    have hmod := Nat.mod_lt r (show 0 < B by omega)
    refine ih (k + 1) (r % B) (u ||| 2 ^ x) B (pre ++ [x]) (by omega) (am_sI σ' 126 (am_up (σ'.1 126) k ((x : Nat) : Int))) (fr_sI hf (List.mem_singleton.mpr rfl)) (by omega) hu2 (by omega) (by simp [hpl]) ?_ (fun j hj => ?_)
    · rw [hW]; simp
    · rw [sI_at, getD_app]
      by_cases q : j = k
      · rw [q, am_up_same, if_neg (by omega), if_pos hpl.symm]
      · rw [am_up_ne q, if_pos (by omega)]; exact hrow j (by omega)

theorem x_turnTo {d : Nat} (hd : 2 ≤ d) {σ : am_S} {M : List Nat} (hM : RS5_ M σ) (hnd : M.Nodup) {num : Nat} (hnum : num < fa_ M.length) {Q : Option am_V → am_S → Prop} (hQ : ∀ σ', fr_ [126] σ σ' → (∀ k, k < M.length → σ'.1 126 k = ((tt_ M.length M (fa_ M.length) num).getD k 0 : Int)) → Q none σ') : am_Ev d 73 [am_R 123, am_I ((num : Nat) : Int)] σ Q := by
  obtain ⟨d, rfl⟩ : ∃ e, d = e + 1 := ⟨d - 1, by omega⟩
  have hfb := fa_bd M.length hM.2.1
  refine ev_in (m := 73) (c := k_X5_turnTo) (L := [some (am_R 123), some (am_I ((num : Nat) : Int)), none, none, none, none]) rfl rfl rfl rfl rfl rfl ?_
  refine ax_load (q := 1) rfl rfl rfl rfl rfl ?_
  refine ax_store (q := 2) (L' := [some (am_R 123), some (am_I ((num : Nat) : Int)), some (am_I ((num : Nat) : Int)), none, none, none]) rfl rfl rfl rfl rfl rfl ?_
  refine ax_const (q := 3) (v := am_I 0) rfl rfl rfl ?_
  refine ax_store (q := 4) (L' := [some (am_R 123), some (am_I ((num : Nat) : Int)), some (am_I ((num : Nat) : Int)), some (am_I 0), none, none]) rfl rfl rfl rfl rfl rfl ?_
  refine ax_load (q := 5) rfl rfl rfl rfl rfl ?_
  refine ax_callv (q := 8) rfl rfl rfl rfl rfl rfl ?_
  refine x_count (by omega) hM.1 hM.2.1 ?_
  refine ax_store (q := 10) (L' := [some (am_R 123), some (am_I ((num : Nat) : Int)), some (am_I ((num : Nat) : Int)), some (am_I 0), some (am_I ((fa_ M.length : Nat) : Int)), none]) rfl rfl rfl rfl rfl rfl ?_
  refine ax_const (q := 11) (v := am_I 0) rfl rfl rfl ?_
  refine ax_store (q := 13) (L' := [some (am_R 123), some (am_I ((num : Nat) : Int)), some (am_I ((num : Nat) : Int)), some (am_I 0), some (am_I ((fa_ M.length : Nat) : Int)), some (am_I 0)]) rfl rfl rfl rfl rfl rfl ?_
  exact xl_turn (by omega) hM hnd hQ M.length 0 num 0 _ [] (by omega) σ (fr_rf _ _) (by omega) (by decide) hfb.2 rfl (by rw [List.filter_eq_self.mpr (fun a _ => by simp)]; rfl) (fun j hj => absurd hj (by omega))

theorem x_worthOf {d : Nat} (hd : 3 ≤ d) {σ : am_S} {t : Nat} {T : sp_T} {v : sp_V} (hL : PL_ 68 t T v σ) (hV : TV_ T) {b : Int} (hW : VV_ T b v) {p l : Nat} (hp : p < nP_ T) (hl : l < nP_ T) {Q : Option am_V → am_S → Prop} (hQ : Q (some (am_I (ho_ T v p l))) σ) : am_Ev d 29 [am_R 68, am_I ((p : Nat) : Int), am_I (v (6 + l))] σ Q := by
  have h1 := (hW.2.2 l hl).2.1
  have h2 := hV.nO
  by_cases q : v (6 + l) < 0
  · rw [show ho_ T v p l = 1 from if_pos q] at hQ
    rw [show v (6 + l) = -1 by omega]
    exact x_worthOfN hd hL hV hp hQ
  · obtain ⟨o, ho⟩ : ∃ o : Nat, v (6 + l) = (o : Int) := ⟨(v (6 + l)).toNat, by omega⟩
    have e : ho_ T v p l = if cn_ T v p o then T 155 o else 0 := by unfold ho_; rw [if_neg q, ho, Int.toNat_natCast]
    rw [e] at hQ
    rw [ho]
    exact x_worthOfY hd hL hV hp (by omega) hQ

theorem xl_wt {d : Nat} (hd : 3 ≤ d) {σ : am_S} {t : Nat} {T : sp_T} {v : sp_V} (hL : PL_ 68 t T v σ) (hV : TV_ T) {b : Int} (hW : VV_ T b v) {M l : List Nat} (hM : RS5_ M σ) (hl : ∀ k, k < M.length → σ.1 126 k = (l.getD k 0 : Int)) (hMp : ∀ k, k < M.length → M.getD k 0 < nP_ T) (hlp : ∀ k, k < M.length → l.getD k 0 < nP_ T) {Q : Option am_V → am_S → Prop} (hQ : Q (some (am_I (rg_ T v M l))) σ) : ∀ (m k : Nat) (x3 : Option am_V), k + m = M.length → an_ k (fun k => decide (ow_ T v M l k < ow_ T v M M k)) = false → aW d 0 k_X5_worthTogether Q 4 [some (am_R 123), some (am_I (su_ k (ow_ T v M l))), some (am_I ((k : Nat) : Int)), x3] [] σ := by
  have hn6 := hV.nP
  have hM6 := hM.2.1
  intro m
  induction m with
  | zero =>
    intro k x3 hk ha
    obtain hk2 : k = M.length := by omega
    subst hk2
    refine ax_load (q := 5) rfl rfl rfl rfl rfl ?_
    refine ax_load (q := 6) rfl rfl rfl rfl rfl ?_
    refine ax_getf (q := 9) (v := am_I ((M.length : Nat) : Int)) rfl rfl (am_fg rfl hM.1) ?_
    refine ax_icmp_ge (q := 12) (x := 89) rfl rfl (fun h9 => ?_) (fun h => absurd h (by omega))
    refine ax_load (q := 90) rfl rfl rfl rfl rfl ?_
    refine ax_ret (r := some (am_I (su_ M.length (ow_ T v M l)))) rfl rfl ?_
    rw [show rg_ T v M l = su_ M.length (ow_ T v M l) from if_neg (by rw [ha]; decide)] at hQ
    exact hQ
  | succ m ih =>
    intro k x3 hk ha
    have hkM : k < M.length := by omega
    have hMk := hMp k hkM
    have hlk := hlp k hkM
    have o1 := ho_bd hV hW (p := M.getD k 0) hlk
    have o2 := ho_bd hV hW (p := M.getD k 0) hMk
    have w1 : ow_ T v M l k = ho_ T v (M.getD k 0) (l.getD k 0) := rfl
    have w2 : ow_ T v M M k = ho_ T v (M.getD k 0) (M.getD k 0) := rfl
    have hsb := su_bd (f := ow_ T v M l) (b := 9) (by omega) k (fun j hj => ho_bd hV hW (hlp j (by omega)))
    refine ax_load (q := 5) rfl rfl rfl rfl rfl ?_
    refine ax_load (q := 6) rfl rfl rfl rfl rfl ?_
    refine ax_getf (q := 9) (v := am_I ((M.length : Nat) : Int)) rfl rfl (am_fg rfl hM.1) ?_
    refine ax_icmp_ge (q := 12) (x := 89) rfl rfl (fun h => absurd h (by omega)) (fun h9 => ?_)
    refine ax_load (q := 13) rfl rfl rfl rfl rfl ?_
    refine ax_getf (q := 16) (v := am_R 68) rfl rfl (rfl) ?_
    refine ax_load (q := 17) rfl rfl rfl rfl rfl ?_
    refine ax_getf (q := 20) (v := am_R 125) rfl rfl (rfl) ?_
    refine ax_load (q := 21) rfl rfl rfl rfl rfl ?_
    refine bx_iald (q := 22) (k := k) (z := ((M.getD k 0 : Nat) : Int)) rfl rfl (rfl) (by omega) (by omega) (hM.2.2.1 _ (by omega)) ?_
    refine ax_load (q := 23) rfl rfl rfl rfl rfl ?_
    refine ax_getf (q := 26) (v := am_R 68) rfl rfl (rfl) ?_
    refine ax_getf (q := 29) (v := am_R 69) rfl rfl (rfl) ?_
    refine ax_const (q := 31) (v := am_I 18) rfl rfl rfl ?_
    refine ax_load (q := 32) rfl rfl rfl rfl rfl ?_
    refine ax_getf (q := 35) (v := am_R 126) rfl rfl (rfl) ?_
    refine ax_load (q := 36) rfl rfl rfl rfl rfl ?_
    refine bx_iald (q := 37) (k := k) (z := ((l.getD k 0 : Nat) : Int)) rfl rfl (rfl) (by omega) (by omega) (hl _ (by omega)) ?_
    refine ax_iadd (q := 38) (z := ((18 + (l.getD k 0) : Nat) : Int)) rfl rfl (am_we (by omega) (by omega) (by omega)) ?_
    refine bx_iald (q := 39) (k := 18 + (l.getD k 0)) (z := v (6 + l.getD k 0)) rfl rfl (rfl) (by omega) (by omega) (hL.rw.hd _ hlk) ?_
    refine ax_callv (q := 42) rfl rfl rfl rfl rfl rfl ?_
    refine x_worthOf (by omega) hL hV hW hMk hlk ?_
    refine ax_store (q := 43) (L' := [some (am_R 123), some (am_I (su_ k (ow_ T v M l))), some (am_I ((k : Nat) : Int)), some (am_I (ho_ T v (M.getD k 0) (l.getD k 0)))]) rfl rfl rfl rfl rfl rfl ?_
    refine ax_load (q := 44) rfl rfl rfl rfl rfl ?_
    refine ax_load (q := 45) rfl rfl rfl rfl rfl ?_
    refine ax_getf (q := 48) (v := am_R 68) rfl rfl (rfl) ?_
    refine ax_load (q := 49) rfl rfl rfl rfl rfl ?_
    refine ax_getf (q := 52) (v := am_R 125) rfl rfl (rfl) ?_
    refine ax_load (q := 53) rfl rfl rfl rfl rfl ?_
    refine bx_iald (q := 54) (k := k) (z := ((M.getD k 0 : Nat) : Int)) rfl rfl (rfl) (by omega) (by omega) (hM.2.2.1 _ (by omega)) ?_
    refine ax_load (q := 55) rfl rfl rfl rfl rfl ?_
    refine ax_getf (q := 58) (v := am_R 68) rfl rfl (rfl) ?_
    refine ax_getf (q := 61) (v := am_R 69) rfl rfl (rfl) ?_
    refine ax_const (q := 63) (v := am_I 18) rfl rfl rfl ?_
    refine ax_load (q := 64) rfl rfl rfl rfl rfl ?_
    refine ax_getf (q := 67) (v := am_R 125) rfl rfl (rfl) ?_
    refine ax_load (q := 68) rfl rfl rfl rfl rfl ?_
    refine bx_iald (q := 69) (k := k) (z := ((M.getD k 0 : Nat) : Int)) rfl rfl (rfl) (by omega) (by omega) (hM.2.2.1 _ (by omega)) ?_
    refine ax_iadd (q := 70) (z := ((18 + (M.getD k 0) : Nat) : Int)) rfl rfl (am_we (by omega) (by omega) (by omega)) ?_
    refine bx_iald (q := 71) (k := 18 + (M.getD k 0)) (z := v (6 + M.getD k 0)) rfl rfl (rfl) (by omega) (by omega) (hL.rw.hd _ hMk) ?_
    refine ax_callv (q := 74) rfl rfl rfl rfl rfl rfl ?_
    refine x_worthOf (by omega) hL hV hW hMk hMk ?_
    refine ax_icmp_ge (q := 77) (x := 79) rfl rfl (fun h74 => ?_) (fun h74 => ?_)
    · refine ax_load (q := 80) rfl rfl rfl rfl rfl ?_
      refine ax_load (q := 81) rfl rfl rfl rfl rfl ?_
      refine ax_iadd (q := 82) (z := su_ (k + 1) (ow_ T v M l)) rfl rfl (am_we rfl (by show -2147483648 ≤ su_ k _ + ow_ T v M l k; omega) (by show su_ k _ + ow_ T v M l k ≤ _; omega)) ?_
      refine ax_store (q := 83) (L' := [some (am_R 123), some (am_I (su_ (k + 1) (ow_ T v M l))), some (am_I ((k : Nat) : Int)), some (am_I (ho_ T v (M.getD k 0) (l.getD k 0)))]) rfl rfl rfl rfl rfl rfl ?_
      refine ax_iinc (q := 86) (z' := ((k + 1 : Nat) : Int)) (L' := [some (am_R 123), some (am_I (su_ (k + 1) (ow_ T v M l))), some (am_I ((k + 1 : Nat) : Int)), some (am_I (ho_ T v (M.getD k 0) (l.getD k 0)))]) rfl rfl rfl rfl (am_we (by omega) (by omega) (by omega)) rfl ?_
      refine ax_goto (x := 4) rfl ?_
      exact ih (k + 1) _ (by omega) (by show (an_ k _ || decide _) = false; rw [ha, decide_eq_false (by omega)]; rfl)
    · refine ax_const (q := 78) (v := am_I (-1)) rfl rfl rfl ?_
      refine ax_ret (r := some (am_I (-1))) rfl rfl ?_
      have ha2 : an_ (k + 1) (fun k => decide (ow_ T v M l k < ow_ T v M M k)) = true := by show (an_ k _ || decide _) = true; rw [decide_eq_true (by omega), Bool.or_true]
      have ha3 := an_mono ha2 m
      rw [show k + 1 + m = M.length by omega] at ha3
      rw [show rg_ T v M l = -1 from if_pos ha3] at hQ
      exact hQ

theorem x_worthTogether {d : Nat} (hd : 4 ≤ d) {σ : am_S} {t : Nat} {T : sp_T} {v : sp_V} (hL : PL_ 68 t T v σ) (hV : TV_ T) {b : Int} (hW : VV_ T b v) {M l : List Nat} (hM : RS5_ M σ) (hl : ∀ k, k < M.length → σ.1 126 k = (l.getD k 0 : Int)) (hMp : ∀ k, k < M.length → M.getD k 0 < nP_ T) (hlp : ∀ k, k < M.length → l.getD k 0 < nP_ T) {Q : Option am_V → am_S → Prop} (hQ : Q (some (am_I (rg_ T v M l))) σ) : am_Ev d 76 [am_R 123] σ Q := by
  obtain ⟨d, rfl⟩ : ∃ e, d = e + 1 := ⟨d - 1, by omega⟩
  refine ev_in (m := 76) (c := k_X5_worthTogether) (L := [some (am_R 123), none, none, none]) rfl rfl rfl rfl rfl rfl ?_
  refine ax_const (q := 1) (v := am_I 0) rfl rfl rfl ?_
  refine ax_store (q := 2) (L' := [some (am_R 123), some (am_I 0), none, none]) rfl rfl rfl rfl rfl rfl ?_
  refine ax_const (q := 3) (v := am_I 0) rfl rfl rfl ?_
  refine ax_store (q := 4) (L' := [some (am_R 123), some (am_I 0), some (am_I 0), none]) rfl rfl rfl rfl rfl rfl ?_
  exact xl_wt (by omega) hL hV hW hM hl hMp hlp hQ M.length 0 _ (by omega) rfl

