theorem ws_in {s : State} {A : Array Value} (hg : (Jvm.Cond.and given_1 narrow_1).before A s = true) {w : Cond} (h : w ∈ flatC (Jvm.Cond.and given_1 narrow_1)) : w.before A s = true := flat_of_before _ hg _ h
set_option maxRecDepth 100000 in
theorem ws_e52 : ∀ j, j < 111 → (Cond.eq (.elem (.field (.string RX4 52) "java/lang/String" "value" "[B") (.int (Int32.ofNat j))) (.int (wb_.getD j 0))) ∈ flatC (Jvm.Cond.and given_1 narrow_1) := by decide +kernel
set_option maxRecDepth 100000 in
theorem ws_e224 : ∀ j, j < 11 → (Cond.eq (.elem (.field (.string RX4 224) "java/lang/String" "value" "[B") (.int (Int32.ofNat j))) (.int (([59, 40, 41, 60, 62, 61, 43, 45, 42, 47, 37] : List Int32).getD j 0))) ∈ flatC (Jvm.Cond.and given_1 narrow_1) := by decide +kernel
theorem ws_S {s : State} {A : Array Value} {n k : Nat} {bs : List Int32} {P : Nat → Prop} (hg : (Jvm.Cond.and given_1 narrow_1).before A s = true) (hn : n < 2 ^ 31) (h1 : (Cond.exactly (.string RX4 k) "java/lang/String") ∈ flatC (Jvm.Cond.and given_1 narrow_1)) (h2 : (Cond.eq (.field (.string RX4 k) "java/lang/String" "coder" "B") (.int 0)) ∈ flatC (Jvm.Cond.and given_1 narrow_1)) (h3 : (Cond.arrayOf (.field (.string RX4 k) "java/lang/String" "value" "[B") .byte) ∈ flatC (Jvm.Cond.and given_1 narrow_1)) (h4 : (Cond.eq (.length (.field (.string RX4 k) "java/lang/String" "value" "[B")) (.int (Int32.ofNat n))) ∈ flatC (Jvm.Cond.and given_1 narrow_1)) (h5 : ∀ j, j < n → (Cond.eq (.elem (.field (.string RX4 k) "java/lang/String" "value" "[B") (.int (Int32.ofNat j))) (.int (bs.getD j 0))) ∈ flatC (Jvm.Cond.and given_1 narrow_1)) (hA : ∀ a : Nat, a < s.heap.size → ¬ P a) : ∃ kS kB : Nat, vk_S 1 [n] [bs] (fun _ => kS) (fun _ => kB) P s s.heap ∧ (Term.string RX4 k).eval A s none [] s = some (.ref kS) := by
  obtain ⟨adK, adV, g1, g2⟩ := vk_Sof (args := A) (s := s) (N := 1) (tm := fun _ => Term.string RX4 k) (len := [n]) (byt := [bs]) (A := P)
    (fun i hi => by obtain rfl : i = 0 := by omega
                    exact hn)
    (fun i hi => ws_in hg h1) (fun i hi => ws_in hg h2) (fun i hi => ws_in hg h3)
    (fun i hi => by obtain rfl : i = 0 := by omega
                    exact ws_in hg h4)
    (fun i hi j hj => by obtain rfl : i = 0 := by omega
                         exact ws_in hg (h5 j hj))
    (fun i j hi hj hij => absurd (show i = j by omega) hij) hA
  refine ⟨adK 0, adV 0, ⟨fun i hi => ?_, fun i j hi hj _ => by omega⟩, g2 0 (by decide)⟩
  obtain rfl : i = 0 := by omega
  exact g1.1 0 (by decide)
theorem ws_lay {s : State} {A : Array Value} (hts : ∀ w ∈ lw_tbl, w.before A s = true) {P : Nat → Prop} (hA : ∀ a : Nat, a < s.heap.size → ¬ P a) (hg : (Jvm.Cond.and given_1 narrow_1).before A s = true) (hl : (Cond.laysStatic "java/lang/String" "COMPACT_STRINGS" "Z") ∈ lw_tbl) (hi : (Cond.initialized "java/lang/String") ∈ lw_tbl) (hv : (Cond.eq (.static "java/lang/String" "COMPACT_STRINGS" "Z") (.int 1)) ∈ flatC (Jvm.Cond.and given_1 narrow_1)) : va_Z "java/lang/String" "COMPACT_STRINGS" "Z" (.int 1) P s s.heap := va_Zof (hts _ hl) (hts _ hi) (va_eqt (ws_in hg hv)) hA
theorem ws_sio {s : State} {A : Array Value} (hts : ∀ w ∈ lw_tbl, w.before A s = true) {P : Nat → Prop} (hA : ∀ a : Nat, a < s.heap.size → ¬ P a) (hg : (Jvm.Cond.and given_1 narrow_1).before A s = true) (hl : (Cond.laysStatic "jdk/internal/util/Preconditions" "SIOOBE_FORMATTER" "Ljava/util/function/BiFunction;") ∈ lw_tbl) (hi : (Cond.initialized "jdk/internal/util/Preconditions") ∈ lw_tbl) (hv : (Cond.isRef (.static "jdk/internal/util/Preconditions" "SIOOBE_FORMATTER" "Ljava/util/function/BiFunction;")) ∈ flatC (Jvm.Cond.and given_1 narrow_1)) : va_Zq "jdk/internal/util/Preconditions" "SIOOBE_FORMATTER" "Ljava/util/function/BiFunction;" P s s.heap := va_Zqof (hts _ hl) (hts _ hi) (ws_in hg hv) hA
