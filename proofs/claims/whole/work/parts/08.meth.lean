def am_NM : Nat := 264
def am_mrest (m : Nat) : Bool := plainName (am_y m).cls && (am_st m || decide (am_own (am_rcv m) = (am_y m).cls)) && decide ((parseMethodDescriptor (am_y m).desc).map (fun d => d.parameters.length) = some (if am_st m then am_na m else am_na m - 1)) && decide ((am_y m).cls ≠ "java/lang/invoke/MethodHandle") && decide ((am_y m).cls ≠ "java/lang/invoke/VarHandle") && decide (am_own (am_ow m) = (am_y m).cls) && Nat.ble (am_nL m) 20 && (am_st m || Nat.blt 0 (am_na m)) && decide (am_rt m = (match am_rkd m with
  | 0 => some .int
  | 1 => some .boolean
  | 2 => some .long
  | 3 => some (.array .int)
  | 4 => none
  | _ => some .double)) && Nat.blt (am_ow m) 12 && Nat.ble (am_rkd m) 4
def am_mok (m : Nat) : Prop := Cond.code (am_y m) (am_b m) (am_nL m) (am_rt m) ∈ am_WL ∧ Cond.initialized (am_y m).cls ∈ am_WL ∧ (am_st m = true → Cond.static (am_y m) ∈ am_WL) ∧ (am_st m = false → Cond.instanceMethod (am_y m) ∈ am_WL ∧ Cond.selects (am_y m).cls (am_y m) (am_y m) ∈ am_WL)
set_option maxRecDepth 20000 in
theorem mk_X0_clear : am_mok 0 := ⟨tb_2 (n := 218) rfl rfl, tb_1 (n := 3) rfl rfl, (fun h => absurd h (by decide)), (fun _ => ⟨tb_2 (n := 216) rfl rfl, tb_2 (n := 217) rfl rfl⟩)⟩
set_option maxRecDepth 20000 in
theorem mk_X0_add : am_mok 1 := ⟨tb_3 (n := 151) rfl rfl, tb_1 (n := 3) rfl rfl, (fun h => absurd h (by decide)), (fun _ => ⟨tb_3 (n := 149) rfl rfl, tb_3 (n := 150) rfl rfl⟩)⟩
set_option maxRecDepth 20000 in
theorem mk_X0_gain : am_mok 2 := ⟨tb_4 (n := 41) rfl rfl, tb_1 (n := 3) rfl rfl, (fun h => absurd h (by decide)), (fun _ => ⟨tb_4 (n := 39) rfl rfl, tb_4 (n := 40) rfl rfl⟩)⟩
set_option maxRecDepth 20000 in
theorem mk_X0_isUnit : am_mok 3 := ⟨tb_3 (n := 147) rfl rfl, tb_1 (n := 3) rfl rfl, (fun _ => tb_3 (n := 146) rfl rfl), (fun h => absurd h (by decide))⟩
set_option maxRecDepth 20000 in
theorem mk_X0_valueOf : am_mok 4 := ⟨tb_4 (n := 46) rfl rfl, tb_1 (n := 3) rfl rfl, (fun h => absurd h (by decide)), (fun _ => ⟨tb_4 (n := 45) rfl rfl, ts_3 (n := 1) (q := (am_y 4, _)) rfl rfl⟩)⟩
set_option maxRecDepth 20000 in
theorem mk_X0_joined : am_mok 5 := ⟨tb_4 (n := 49) rfl rfl, tb_1 (n := 3) rfl rfl, (fun _ => tb_4 (n := 48) rfl rfl), (fun h => absurd h (by decide))⟩
set_option maxRecDepth 20000 in
theorem mk_X1_rowNow : am_mok 6 := ⟨tb_2 (n := 140) rfl rfl, tb_1 (n := 10) rfl rfl, (fun h => absurd h (by decide)), (fun _ => ⟨tb_2 (n := 139) rfl rfl, ts_1 (n := 1) (q := (am_y 6, _)) rfl rfl⟩)⟩
set_option maxRecDepth 20000 in
theorem mk_X1_clear : am_mok 7 := ⟨tb_2 (n := 136) rfl rfl, tb_1 (n := 10) rfl rfl, (fun h => absurd h (by decide)), (fun _ => ⟨tb_2 (n := 134) rfl rfl, tb_2 (n := 135) rfl rfl⟩)⟩
set_option maxRecDepth 20000 in
theorem mk_X1_keep : am_mok 8 := ⟨tb_3 (n := 235) rfl rfl, tb_1 (n := 10) rfl rfl, (fun h => absurd h (by decide)), (fun _ => ⟨tb_3 (n := 233) rfl rfl, tb_3 (n := 234) rfl rfl⟩)⟩
set_option maxRecDepth 20000 in
theorem mk_X1_stepsBack : am_mok 9 := ⟨tb_4 (n := 61) rfl rfl, tb_1 (n := 10) rfl rfl, (fun h => absurd h (by decide)), (fun _ => ⟨tb_4 (n := 59) rfl rfl, tb_4 (n := 60) rfl rfl⟩)⟩
set_option maxRecDepth 20000 in
theorem mk_X1_stepsOn : am_mok 10 := ⟨tb_4 (n := 69) rfl rfl, tb_1 (n := 10) rfl rfl, (fun h => absurd h (by decide)), (fun _ => ⟨tb_4 (n := 67) rfl rfl, tb_4 (n := 68) rfl rfl⟩)⟩
set_option maxRecDepth 20000 in
theorem mk_X2_begin : am_mok 11 := ⟨tb_2 (n := 116) rfl rfl, tb_1 (n := 9) rfl rfl, (fun h => absurd h (by decide)), (fun _ => ⟨tb_2 (n := 114) rfl rfl, tb_2 (n := 115) rfl rfl⟩)⟩
set_option maxRecDepth 20000 in
theorem mk_X2_drawnOrder : am_mok 12 := ⟨tb_2 (n := 120) rfl rfl, tb_1 (n := 9) rfl rfl, (fun h => absurd h (by decide)), (fun _ => ⟨tb_2 (n := 119) rfl rfl, ts_1 (n := 0) (q := (am_y 12, _)) rfl rfl⟩)⟩
set_option maxRecDepth 20000 in
theorem mk_X2_copy : am_mok 13 := ⟨tb_4 (n := 181) rfl rfl, tb_1 (n := 9) rfl rfl, (fun h => absurd h (by decide)), (fun _ => ⟨tb_4 (n := 179) rfl rfl, tb_4 (n := 180) rfl rfl⟩)⟩
set_option maxRecDepth 20000 in
theorem mk_X2_levelOf : am_mok 14 := ⟨tb_3 (n := 186) rfl rfl, tb_1 (n := 9) rfl rfl, (fun h => absurd h (by decide)), (fun _ => ⟨tb_3 (n := 184) rfl rfl, tb_3 (n := 185) rfl rfl⟩)⟩
set_option maxRecDepth 20000 in
theorem mk_X2_isOpened : am_mok 15 := ⟨tb_3 (n := 227) rfl rfl, tb_1 (n := 9) rfl rfl, (fun h => absurd h (by decide)), (fun _ => ⟨tb_3 (n := 225) rfl rfl, tb_3 (n := 226) rfl rfl⟩)⟩
set_option maxRecDepth 20000 in
theorem mk_X2_unopened : am_mok 16 := ⟨tb_4 (n := 159) rfl rfl, tb_1 (n := 9) rfl rfl, (fun h => absurd h (by decide)), (fun _ => ⟨tb_4 (n := 157) rfl rfl, tb_4 (n := 158) rfl rfl⟩)⟩
set_option maxRecDepth 20000 in
theorem mk_X2_canDo : am_mok 17 := ⟨tb_3 (n := 182) rfl rfl, tb_1 (n := 9) rfl rfl, (fun h => absurd h (by decide)), (fun _ => ⟨tb_3 (n := 180) rfl rfl, tb_3 (n := 181) rfl rfl⟩)⟩
set_option maxRecDepth 20000 in
theorem mk_X2_ordersFor : am_mok 18 := ⟨tb_3 (n := 178) rfl rfl, tb_1 (n := 9) rfl rfl, (fun h => absurd h (by decide)), (fun _ => ⟨tb_3 (n := 176) rfl rfl, tb_3 (n := 177) rfl rfl⟩)⟩
set_option maxRecDepth 20000 in
theorem mk_X2_countOf : am_mok 19 := ⟨tb_3 (n := 207) rfl rfl, tb_1 (n := 9) rfl rfl, (fun h => absurd h (by decide)), (fun _ => ⟨tb_3 (n := 205) rfl rfl, tb_3 (n := 206) rfl rfl⟩)⟩
set_option maxRecDepth 20000 in
theorem mk_X2_doneOrders : am_mok 20 := ⟨tb_3 (n := 215) rfl rfl, tb_1 (n := 9) rfl rfl, (fun h => absurd h (by decide)), (fun _ => ⟨tb_3 (n := 213) rfl rfl, tb_3 (n := 214) rfl rfl⟩)⟩
set_option maxRecDepth 20000 in
theorem mk_X2_wouldDo : am_mok 21 := ⟨tb_4 (n := 20) rfl rfl, tb_1 (n := 9) rfl rfl, (fun h => absurd h (by decide)), (fun _ => ⟨tb_4 (n := 18) rfl rfl, tb_4 (n := 19) rfl rfl⟩)⟩
set_option maxRecDepth 20000 in
theorem mk_X2_openLetter : am_mok 22 := ⟨tb_4 (n := 15) rfl rfl, tb_1 (n := 9) rfl rfl, (fun h => absurd h (by decide)), (fun _ => ⟨tb_4 (n := 13) rfl rfl, tb_4 (n := 14) rfl rfl⟩)⟩
set_option maxRecDepth 20000 in
theorem mk_X2_passYear : am_mok 23 := ⟨tb_4 (n := 28) rfl rfl, tb_1 (n := 9) rfl rfl, (fun h => absurd h (by decide)), (fun _ => ⟨tb_4 (n := 26) rfl rfl, tb_4 (n := 27) rfl rfl⟩)⟩
set_option maxRecDepth 20000 in
theorem mk_X2_learn : am_mok 24 := ⟨tb_4 (n := 33) rfl rfl, tb_1 (n := 9) rfl rfl, (fun h => absurd h (by decide)), (fun _ => ⟨tb_4 (n := 32) rfl rfl, ts_3 (n := 0) (q := (am_y 24, _)) rfl rfl⟩)⟩
set_option maxRecDepth 20000 in
theorem mk_X2_levelNext : am_mok 25 := ⟨tb_4 (n := 37) rfl rfl, tb_1 (n := 9) rfl rfl, (fun h => absurd h (by decide)), (fun _ => ⟨tb_4 (n := 35) rfl rfl, tb_4 (n := 36) rfl rfl⟩)⟩
set_option maxRecDepth 20000 in
theorem mk_X2_levelBehind : am_mok 26 := ⟨tb_4 (n := 87) rfl rfl, tb_1 (n := 9) rfl rfl, (fun h => absurd h (by decide)), (fun _ => ⟨tb_4 (n := 85) rfl rfl, tb_4 (n := 86) rfl rfl⟩)⟩
set_option maxRecDepth 20000 in
theorem mk_X2_yearsTillOpened : am_mok 27 := ⟨tb_4 (n := 81) rfl rfl, tb_1 (n := 9) rfl rfl, (fun h => absurd h (by decide)), (fun _ => ⟨tb_4 (n := 79) rfl rfl, tb_4 (n := 80) rfl rfl⟩)⟩
set_option maxRecDepth 20000 in
theorem mk_X2_yearsTillReady : am_mok 28 := ⟨tb_4 (n := 167) rfl rfl, tb_1 (n := 9) rfl rfl, (fun h => absurd h (by decide)), (fun _ => ⟨tb_4 (n := 165) rfl rfl, tb_4 (n := 166) rfl rfl⟩)⟩
set_option maxRecDepth 20000 in
theorem mk_X2_worthOf : am_mok 29 := ⟨tb_4 (n := 223) rfl rfl, tb_1 (n := 9) rfl rfl, (fun h => absurd h (by decide)), (fun _ => ⟨tb_4 (n := 221) rfl rfl, tb_4 (n := 222) rfl rfl⟩)⟩
set_option maxRecDepth 20000 in
theorem mk_X3_look : am_mok 30 := ⟨tb_4 (n := 77) rfl rfl, tb_1 (n := 11) rfl rfl, (fun h => absurd h (by decide)), (fun _ => ⟨tb_4 (n := 75) rfl rfl, tb_4 (n := 76) rfl rfl⟩)⟩
set_option maxRecDepth 20000 in
theorem mk_X3_knowsIt : am_mok 31 := ⟨tb_4 (n := 95) rfl rfl, tb_1 (n := 11) rfl rfl, (fun h => absurd h (by decide)), (fun _ => ⟨tb_4 (n := 94) rfl rfl, ts_3 (n := 2) (q := (am_y 31, _)) rfl rfl⟩)⟩
set_option maxRecDepth 20000 in
theorem mk_X3_knownOrder : am_mok 32 := ⟨tb_4 (n := 100) rfl rfl, tb_1 (n := 11) rfl rfl, (fun h => absurd h (by decide)), (fun _ => ⟨tb_4 (n := 99) rfl rfl, ts_3 (n := 3) (q := (am_y 32, _)) rfl rfl⟩)⟩
set_option maxRecDepth 20000 in
theorem mk_X3_canThen : am_mok 33 := ⟨tb_4 (n := 104) rfl rfl, tb_1 (n := 11) rfl rfl, (fun h => absurd h (by decide)), (fun _ => ⟨tb_4 (n := 103) rfl rfl, ts_3 (n := 4) (q := (am_y 33, _)) rfl rfl⟩)⟩
set_option maxRecDepth 20000 in
theorem mk_X3_wholes : am_mok 34 := ⟨tb_4 (n := 109) rfl rfl, tb_1 (n := 11) rfl rfl, (fun h => absurd h (by decide)), (fun _ => ⟨tb_4 (n := 107) rfl rfl, tb_4 (n := 108) rfl rfl⟩)⟩
set_option maxRecDepth 20000 in
theorem mk_X3_parts : am_mok 35 := ⟨tb_4 (n := 91) rfl rfl, tb_1 (n := 11) rfl rfl, (fun h => absurd h (by decide)), (fun _ => ⟨tb_4 (n := 89) rfl rfl, tb_4 (n := 90) rfl rfl⟩)⟩
set_option maxRecDepth 20000 in
theorem mk_X3_worths : am_mok 36 := ⟨tb_4 (n := 124) rfl rfl, tb_1 (n := 11) rfl rfl, (fun h => absurd h (by decide)), (fun _ => ⟨tb_4 (n := 122) rfl rfl, tb_4 (n := 123) rfl rfl⟩)⟩
set_option maxRecDepth 20000 in
theorem mk_X3_spreadsBest : am_mok 37 := ⟨tb_4 (n := 134) rfl rfl, tb_1 (n := 11) rfl rfl, (fun h => absurd h (by decide)), (fun _ => ⟨tb_4 (n := 132) rfl rfl, tb_4 (n := 133) rfl rfl⟩)⟩
set_option maxRecDepth 20000 in
theorem mk_X3_fillsYears : am_mok 38 := ⟨tb_4 (n := 139) rfl rfl, tb_1 (n := 11) rfl rfl, (fun h => absurd h (by decide)), (fun _ => ⟨tb_4 (n := 138) rfl rfl, ts_3 (n := 5) (q := (am_y 38, _)) rfl rfl⟩)⟩
set_option maxRecDepth 20000 in
theorem mk_X3_liveSpread : am_mok 39 := ⟨tb_4 (n := 144) rfl rfl, tb_1 (n := 11) rfl rfl, (fun h => absurd h (by decide)), (fun _ => ⟨tb_4 (n := 143) rfl rfl, ts_3 (n := 6) (q := (am_y 39, _)) rfl rfl⟩)⟩
set_option maxRecDepth 20000 in
theorem mk_X4_readsTown : am_mok 40 := ⟨tb_2 (n := 207) rfl rfl, tb_1 (n := 4) rfl rfl, (fun h => absurd h (by decide)), (fun _ => ⟨tb_2 (n := 205) rfl rfl, tb_2 (n := 206) rfl rfl⟩)⟩
set_option maxRecDepth 20000 in
theorem mk_X4_readsLine : am_mok 41 := ⟨tb_3 (n := 58) rfl rfl, tb_1 (n := 4) rfl rfl, (fun h => absurd h (by decide)), (fun _ => ⟨tb_3 (n := 57) rfl rfl, ts_1 (n := 6) (q := (am_y 41, _)) rfl rfl⟩)⟩
set_option maxRecDepth 20000 in
theorem mk_X4_readsNamed : am_mok 42 := ⟨tb_3 (n := 62) rfl rfl, tb_1 (n := 4) rfl rfl, (fun h => absurd h (by decide)), (fun _ => ⟨tb_3 (n := 61) rfl rfl, ts_1 (n := 7) (q := (am_y 42, _)) rfl rfl⟩)⟩
set_option maxRecDepth 20000 in
theorem mk_X4_readsOrder : am_mok 43 := ⟨tb_3 (n := 84) rfl rfl, tb_1 (n := 4) rfl rfl, (fun h => absurd h (by decide)), (fun _ => ⟨tb_3 (n := 83) rfl rfl, ts_1 (n := 12) (q := (am_y 43, _)) rfl rfl⟩)⟩
set_option maxRecDepth 20000 in
theorem mk_X4_readsTrait : am_mok 44 := ⟨tb_3 (n := 96) rfl rfl, tb_1 (n := 4) rfl rfl, (fun h => absurd h (by decide)), (fun _ => ⟨tb_3 (n := 95) rfl rfl, ts_1 (n := 15) (q := (am_y 44, _)) rfl rfl⟩)⟩
set_option maxRecDepth 20000 in
theorem mk_X4_readsOdds : am_mok 45 := ⟨tb_3 (n := 100) rfl rfl, tb_1 (n := 4) rfl rfl, (fun h => absurd h (by decide)), (fun _ => ⟨tb_3 (n := 99) rfl rfl, ts_2 (n := 0) (q := (am_y 45, _)) rfl rfl⟩)⟩
set_option maxRecDepth 20000 in
theorem mk_X4_readsPerson : am_mok 46 := ⟨tb_3 (n := 104) rfl rfl, tb_1 (n := 4) rfl rfl, (fun h => absurd h (by decide)), (fun _ => ⟨tb_3 (n := 103) rfl rfl, ts_2 (n := 1) (q := (am_y 46, _)) rfl rfl⟩)⟩
set_option maxRecDepth 20000 in
theorem mk_X4_readsLevels : am_mok 47 := ⟨tb_3 (n := 108) rfl rfl, tb_1 (n := 4) rfl rfl, (fun h => absurd h (by decide)), (fun _ => ⟨tb_3 (n := 107) rfl rfl, ts_2 (n := 2) (q := (am_y 47, _)) rfl rfl⟩)⟩
set_option maxRecDepth 20000 in
theorem mk_X4_readsUndoes : am_mok 48 := ⟨tb_3 (n := 112) rfl rfl, tb_1 (n := 4) rfl rfl, (fun h => absurd h (by decide)), (fun _ => ⟨tb_3 (n := 111) rfl rfl, ts_2 (n := 3) (q := (am_y 48, _)) rfl rfl⟩)⟩
set_option maxRecDepth 20000 in
theorem mk_X4_readsOpen : am_mok 49 := ⟨tb_3 (n := 155) rfl rfl, tb_1 (n := 4) rfl rfl, (fun h => absurd h (by decide)), (fun _ => ⟨tb_3 (n := 154) rfl rfl, ts_2 (n := 12) (q := (am_y 49, _)) rfl rfl⟩)⟩
set_option maxRecDepth 20000 in
theorem mk_X4_readsDraw : am_mok 50 := ⟨tb_3 (n := 159) rfl rfl, tb_1 (n := 4) rfl rfl, (fun h => absurd h (by decide)), (fun _ => ⟨tb_3 (n := 158) rfl rfl, ts_2 (n := 13) (q := (am_y 50, _)) rfl rfl⟩)⟩
set_option maxRecDepth 20000 in
theorem mk_X4_takesOnce : am_mok 51 := ⟨tb_3 (n := 116) rfl rfl, tb_1 (n := 4) rfl rfl, (fun h => absurd h (by decide)), (fun _ => ⟨tb_3 (n := 115) rfl rfl, ts_2 (n := 4) (q := (am_y 51, _)) rfl rfl⟩)⟩
set_option maxRecDepth 20000 in
theorem mk_X4_either : am_mok 52 := ⟨tb_3 (n := 120) rfl rfl, tb_1 (n := 4) rfl rfl, (fun h => absurd h (by decide)), (fun _ => ⟨tb_3 (n := 119) rfl rfl, ts_2 (n := 5) (q := (am_y 52, _)) rfl rfl⟩)⟩
set_option maxRecDepth 20000 in
theorem mk_X4_both : am_mok 53 := ⟨tb_3 (n := 124) rfl rfl, tb_1 (n := 4) rfl rfl, (fun h => absurd h (by decide)), (fun _ => ⟨tb_3 (n := 123) rfl rfl, ts_2 (n := 6) (q := (am_y 53, _)) rfl rfl⟩)⟩
set_option maxRecDepth 20000 in
theorem mk_X4_one : am_mok 54 := ⟨tb_3 (n := 128) rfl rfl, tb_1 (n := 4) rfl rfl, (fun h => absurd h (by decide)), (fun _ => ⟨tb_3 (n := 127) rfl rfl, ts_2 (n := 7) (q := (am_y 54, _)) rfl rfl⟩)⟩
set_option maxRecDepth 20000 in
theorem mk_X4_related : am_mok 55 := ⟨tb_3 (n := 132) rfl rfl, tb_1 (n := 4) rfl rfl, (fun h => absurd h (by decide)), (fun _ => ⟨tb_3 (n := 131) rfl rfl, ts_2 (n := 8) (q := (am_y 55, _)) rfl rfl⟩)⟩
set_option maxRecDepth 20000 in
theorem mk_X4_sum : am_mok 56 := ⟨tb_3 (n := 136) rfl rfl, tb_1 (n := 4) rfl rfl, (fun h => absurd h (by decide)), (fun _ => ⟨tb_3 (n := 135) rfl rfl, ts_2 (n := 9) (q := (am_y 56, _)) rfl rfl⟩)⟩
set_option maxRecDepth 20000 in
theorem mk_X4_term : am_mok 57 := ⟨tb_3 (n := 140) rfl rfl, tb_1 (n := 4) rfl rfl, (fun h => absurd h (by decide)), (fun _ => ⟨tb_3 (n := 139) rfl rfl, ts_2 (n := 10) (q := (am_y 57, _)) rfl rfl⟩)⟩
set_option maxRecDepth 20000 in
theorem mk_X4_unit : am_mok 58 := ⟨tb_3 (n := 144) rfl rfl, tb_1 (n := 4) rfl rfl, (fun h => absurd h (by decide)), (fun _ => ⟨tb_3 (n := 143) rfl rfl, ts_2 (n := 11) (q := (am_y 58, _)) rfl rfl⟩)⟩
set_option maxRecDepth 20000 in
theorem mk_X4_take : am_mok 59 := ⟨tb_3 (n := 80) rfl rfl, tb_1 (n := 4) rfl rfl, (fun h => absurd h (by decide)), (fun _ => ⟨tb_3 (n := 79) rfl rfl, ts_1 (n := 11) (q := (am_y 59, _)) rfl rfl⟩)⟩
set_option maxRecDepth 20000 in
theorem mk_X4_known : am_mok 60 := ⟨tb_3 (n := 88) rfl rfl, tb_1 (n := 4) rfl rfl, (fun h => absurd h (by decide)), (fun _ => ⟨tb_3 (n := 87) rfl rfl, ts_1 (n := 13) (q := (am_y 60, _)) rfl rfl⟩)⟩
set_option maxRecDepth 20000 in
theorem mk_X4_find : am_mok 61 := ⟨tb_3 (n := 76) rfl rfl, tb_1 (n := 4) rfl rfl, (fun h => absurd h (by decide)), (fun _ => ⟨tb_3 (n := 75) rfl rfl, ts_1 (n := 10) (q := (am_y 61, _)) rfl rfl⟩)⟩
set_option maxRecDepth 20000 in
theorem mk_X4_numberWithin : am_mok 62 := ⟨tb_3 (n := 92) rfl rfl, tb_1 (n := 4) rfl rfl, (fun h => absurd h (by decide)), (fun _ => ⟨tb_3 (n := 91) rfl rfl, ts_1 (n := 14) (q := (am_y 62, _)) rfl rfl⟩)⟩
set_option maxRecDepth 20000 in
theorem mk_X4_misplaced : am_mok 63 := ⟨tb_3 (n := 72) rfl rfl, tb_1 (n := 4) rfl rfl, (fun h => absurd h (by decide)), (fun _ => ⟨tb_3 (n := 71) rfl rfl, ts_1 (n := 9) (q := (am_y 63, _)) rfl rfl⟩)⟩
set_option maxRecDepth 20000 in
theorem mk_X4_refuse : am_mok 64 := ⟨tb_3 (n := 68) rfl rfl, tb_1 (n := 4) rfl rfl, (fun h => absurd h (by decide)), (fun _ => ⟨tb_3 (n := 67) rfl rfl, ts_1 (n := 8) (q := (am_y 64, _)) rfl rfl⟩)⟩
set_option maxRecDepth 20000 in
theorem mk_X4_next : am_mok 65 := ⟨tb_2 (n := 222) rfl rfl, tb_1 (n := 4) rfl rfl, (fun h => absurd h (by decide)), (fun _ => ⟨tb_2 (n := 221) rfl rfl, ts_1 (n := 3) (q := (am_y 65, _)) rfl rfl⟩)⟩
set_option maxRecDepth 20000 in
theorem mk_X4_scanWord : am_mok 66 := ⟨tb_2 (n := 229) rfl rfl, tb_1 (n := 4) rfl rfl, (fun h => absurd h (by decide)), (fun _ => ⟨tb_2 (n := 228) rfl rfl, ts_1 (n := 4) (q := (am_y 66, _)) rfl rfl⟩)⟩
set_option maxRecDepth 20000 in
theorem mk_X4_scanNumber : am_mok 67 := ⟨tb_2 (n := 236) rfl rfl, tb_1 (n := 4) rfl rfl, (fun h => absurd h (by decide)), (fun _ => ⟨tb_2 (n := 235) rfl rfl, ts_1 (n := 5) (q := (am_y 67, _)) rfl rfl⟩)⟩
set_option maxRecDepth 20000 in
theorem mk_X4_behind : am_mok 68 := ⟨tb_1 (n := 189) rfl rfl, tb_1 (n := 4) rfl rfl, (fun _ => tb_1 (n := 188) rfl rfl), (fun h => absurd h (by decide))⟩
set_option maxRecDepth 20000 in
theorem mk_X4_isLetter : am_mok 69 := ⟨tb_2 (n := 225) rfl rfl, tb_1 (n := 4) rfl rfl, (fun _ => tb_2 (n := 224) rfl rfl), (fun h => absurd h (by decide))⟩
set_option maxRecDepth 20000 in
theorem mk_X4_isDigit : am_mok 70 := ⟨tb_2 (n := 232) rfl rfl, tb_1 (n := 4) rfl rfl, (fun _ => tb_2 (n := 231) rfl rfl), (fun h => absurd h (by decide))⟩
set_option maxRecDepth 20000 in
theorem mk_X5_begin : am_mok 71 := ⟨tb_4 (n := 202) rfl rfl, tb_1 (n := 12) rfl rfl, (fun h => absurd h (by decide)), (fun _ => ⟨tb_4 (n := 201) rfl rfl, ts_3 (n := 9) (q := (am_y 71, _)) rfl rfl⟩)⟩
set_option maxRecDepth 20000 in
theorem mk_X5_count : am_mok 72 := ⟨tb_4 (n := 206) rfl rfl, tb_1 (n := 12) rfl rfl, (fun h => absurd h (by decide)), (fun _ => ⟨tb_4 (n := 205) rfl rfl, ts_3 (n := 10) (q := (am_y 72, _)) rfl rfl⟩)⟩
set_option maxRecDepth 20000 in
theorem mk_X5_turnTo : am_mok 73 := ⟨tb_4 (n := 210) rfl rfl, tb_1 (n := 12) rfl rfl, (fun h => absurd h (by decide)), (fun _ => ⟨tb_4 (n := 209) rfl rfl, ts_3 (n := 11) (q := (am_y 73, _)) rfl rfl⟩)⟩
set_option maxRecDepth 20000 in
theorem mk_X5_memberLeft : am_mok 74 := ⟨tb_4 (n := 215) rfl rfl, tb_1 (n := 12) rfl rfl, (fun h => absurd h (by decide)), (fun _ => ⟨tb_4 (n := 214) rfl rfl, ts_3 (n := 12) (q := (am_y 74, _)) rfl rfl⟩)⟩
set_option maxRecDepth 20000 in
theorem mk_X5_bestRings : am_mok 75 := ⟨tb_4 (n := 197) rfl rfl, tb_1 (n := 12) rfl rfl, (fun h => absurd h (by decide)), (fun _ => ⟨tb_4 (n := 195) rfl rfl, tb_4 (n := 196) rfl rfl⟩)⟩
set_option maxRecDepth 20000 in
theorem mk_X5_worthTogether : am_mok 76 := ⟨tb_4 (n := 219) rfl rfl, tb_1 (n := 12) rfl rfl, (fun h => absurd h (by decide)), (fun _ => ⟨tb_4 (n := 218) rfl rfl, ts_3 (n := 13) (q := (am_y 76, _)) rfl rfl⟩)⟩
set_option maxRecDepth 20000 in
theorem mk_X5_keepRings : am_mok 77 := ⟨tb_4 (n := 227) rfl rfl, tb_1 (n := 12) rfl rfl, (fun h => absurd h (by decide)), (fun _ => ⟨tb_4 (n := 226) rfl rfl, ts_3 (n := 14) (q := (am_y 77, _)) rfl rfl⟩)⟩
set_option maxRecDepth 20000 in
theorem mk_X5_bestOpening : am_mok 78 := ⟨tb_4 (n := 235) rfl rfl, tb_1 (n := 12) rfl rfl, (fun h => absurd h (by decide)), (fun _ => ⟨tb_4 (n := 233) rfl rfl, tb_4 (n := 234) rfl rfl⟩)⟩
set_option maxRecDepth 20000 in
theorem mk_X5_doneInTurn : am_mok 79 := ⟨tb_4 (n := 239) rfl rfl, tb_1 (n := 12) rfl rfl, (fun h => absurd h (by decide)), (fun _ => ⟨tb_4 (n := 238) rfl rfl, ts_3 (n := 15) (q := (am_y 79, _)) rfl rfl⟩)⟩
set_option maxRecDepth 20000 in
theorem mk_X6_tell : am_mok 80 := ⟨tb_5 (n := 28) rfl rfl, tb_1 (n := 13) rfl rfl, (fun h => absurd h (by decide)), (fun _ => ⟨tb_5 (n := 26) rfl rfl, tb_5 (n := 27) rfl rfl⟩)⟩
set_option maxRecDepth 20000 in
theorem mk_X6_takesBack : am_mok 81 := ⟨tb_5 (n := 36) rfl rfl, tb_1 (n := 13) rfl rfl, (fun h => absurd h (by decide)), (fun _ => ⟨tb_5 (n := 34) rfl rfl, tb_5 (n := 35) rfl rfl⟩)⟩
set_option maxRecDepth 20000 in
theorem mk_X6_counts : am_mok 82 := ⟨tb_5 (n := 58) rfl rfl, tb_1 (n := 13) rfl rfl, (fun h => absurd h (by decide)), (fun _ => ⟨tb_5 (n := 57) rfl rfl, ts_4 (n := 2) (q := (am_y 82, _)) rfl rfl⟩)⟩
set_option maxRecDepth 20000 in
theorem mk_X6_fitting : am_mok 83 := ⟨tb_5 (n := 49) rfl rfl, tb_1 (n := 13) rfl rfl, (fun h => absurd h (by decide)), (fun _ => ⟨tb_5 (n := 47) rfl rfl, tb_5 (n := 48) rfl rfl⟩)⟩
set_option maxRecDepth 20000 in
theorem mk_X6_fits : am_mok 84 := ⟨tb_5 (n := 54) rfl rfl, tb_1 (n := 13) rfl rfl, (fun h => absurd h (by decide)), (fun _ => ⟨tb_5 (n := 53) rfl rfl, ts_4 (n := 1) (q := (am_y 84, _)) rfl rfl⟩)⟩
set_option maxRecDepth 20000 in
theorem mk_X6_seen : am_mok 85 := ⟨tb_5 (n := 61) rfl rfl, tb_1 (n := 13) rfl rfl, (fun _ => tb_5 (n := 60) rfl rfl), (fun h => absurd h (by decide))⟩
set_option maxRecDepth 20000 in
theorem mk_X6_mostLeft : am_mok 86 := ⟨tb_5 (n := 72) rfl rfl, tb_1 (n := 13) rfl rfl, (fun _ => tb_5 (n := 71) rfl rfl), (fun h => absurd h (by decide))⟩
set_option maxRecDepth 20000 in
theorem mk_X7_clear : am_mok 87 := ⟨tb_2 (n := 214) rfl rfl, tb_1 (n := 2) rfl rfl, (fun h => absurd h (by decide)), (fun _ => ⟨tb_2 (n := 212) rfl rfl, tb_2 (n := 213) rfl rfl⟩)⟩
set_option maxRecDepth 20000 in
theorem mk_X7_has : am_mok 88 := ⟨tb_3 (n := 174) rfl rfl, tb_1 (n := 2) rfl rfl, (fun h => absurd h (by decide)), (fun _ => ⟨tb_3 (n := 172) rfl rfl, tb_3 (n := 173) rfl rfl⟩)⟩
set_option maxRecDepth 20000 in
theorem mk_X7_sharesOf : am_mok 89 := ⟨tb_2 (n := 128) rfl rfl, tb_1 (n := 2) rfl rfl, (fun h => absurd h (by decide)), (fun _ => ⟨tb_2 (n := 126) rfl rfl, tb_2 (n := 127) rfl rfl⟩)⟩
set_option maxRecDepth 20000 in
theorem mk_X7_allShares : am_mok 90 := ⟨tb_2 (n := 124) rfl rfl, tb_1 (n := 2) rfl rfl, (fun h => absurd h (by decide)), (fun _ => ⟨tb_2 (n := 122) rfl rfl, tb_2 (n := 123) rfl rfl⟩)⟩
set_option maxRecDepth 20000 in
theorem mk_X8_feed : am_mok 91 := ⟨tb_2 (n := 191) rfl rfl, tb_1 (n := 1) rfl rfl, (fun h => absurd h (by decide)), (fun _ => ⟨tb_2 (n := 189) rfl rfl, tb_2 (n := 190) rfl rfl⟩)⟩
set_option maxRecDepth 20000 in
theorem mk_X8_putBytes : am_mok 92 := ⟨tb_2 (n := 195) rfl rfl, tb_1 (n := 1) rfl rfl, (fun h => absurd h (by decide)), (fun _ => ⟨tb_2 (n := 194) rfl rfl, ts_1 (n := 2) (q := (am_y 92, _)) rfl rfl⟩)⟩
set_option maxRecDepth 20000 in
theorem mk_X8_end : am_mok 93 := ⟨tb_2 (n := 199) rfl rfl, tb_1 (n := 1) rfl rfl, (fun h => absurd h (by decide)), (fun _ => ⟨tb_2 (n := 197) rfl rfl, tb_2 (n := 198) rfl rfl⟩)⟩
set_option maxRecDepth 20000 in
theorem mk_X8_town : am_mok 94 := ⟨tb_2 (n := 203) rfl rfl, tb_1 (n := 1) rfl rfl, (fun h => absurd h (by decide)), (fun _ => ⟨tb_2 (n := 201) rfl rfl, tb_2 (n := 202) rfl rfl⟩)⟩
set_option maxRecDepth 20000 in
theorem mk_X8_fault : am_mok 95 := ⟨tb_3 (n := 163) rfl rfl, tb_1 (n := 1) rfl rfl, (fun h => absurd h (by decide)), (fun _ => ⟨tb_3 (n := 161) rfl rfl, tb_3 (n := 162) rfl rfl⟩)⟩
set_option maxRecDepth 20000 in
theorem mk_X8_chosen : am_mok 96 := ⟨tb_3 (n := 166) rfl rfl, tb_1 (n := 1) rfl rfl, (fun _ => tb_3 (n := 165) rfl rfl), (fun h => absurd h (by decide))⟩
set_option maxRecDepth 20000 in
theorem mk_X8_person : am_mok 97 := ⟨tb_3 (n := 170) rfl rfl, tb_1 (n := 1) rfl rfl, (fun h => absurd h (by decide)), (fun _ => ⟨tb_3 (n := 168) rfl rfl, tb_3 (n := 169) rfl rfl⟩)⟩
set_option maxRecDepth 20000 in
theorem mk_X8_level : am_mok 98 := ⟨tb_3 (n := 190) rfl rfl, tb_1 (n := 1) rfl rfl, (fun h => absurd h (by decide)), (fun _ => ⟨tb_3 (n := 188) rfl rfl, tb_3 (n := 189) rfl rfl⟩)⟩
set_option maxRecDepth 20000 in
theorem mk_X8_order : am_mok 99 := ⟨tb_3 (n := 195) rfl rfl, tb_1 (n := 1) rfl rfl, (fun h => absurd h (by decide)), (fun _ => ⟨tb_3 (n := 193) rfl rfl, tb_3 (n := 194) rfl rfl⟩)⟩
set_option maxRecDepth 20000 in
theorem mk_X8_share : am_mok 100 := ⟨tb_3 (n := 199) rfl rfl, tb_1 (n := 1) rfl rfl, (fun h => absurd h (by decide)), (fun _ => ⟨tb_3 (n := 197) rfl rfl, tb_3 (n := 198) rfl rfl⟩)⟩
set_option maxRecDepth 20000 in
theorem mk_X8_many : am_mok 101 := ⟨tb_3 (n := 203) rfl rfl, tb_1 (n := 1) rfl rfl, (fun h => absurd h (by decide)), (fun _ => ⟨tb_3 (n := 201) rfl rfl, tb_3 (n := 202) rfl rfl⟩)⟩
set_option maxRecDepth 20000 in
theorem mk_X8_done : am_mok 102 := ⟨tb_3 (n := 211) rfl rfl, tb_1 (n := 1) rfl rfl, (fun h => absurd h (by decide)), (fun _ => ⟨tb_3 (n := 209) rfl rfl, tb_3 (n := 210) rfl rfl⟩)⟩
set_option maxRecDepth 20000 in
theorem mk_X8_isUnopened : am_mok 103 := ⟨tb_3 (n := 223) rfl rfl, tb_1 (n := 1) rfl rfl, (fun h => absurd h (by decide)), (fun _ => ⟨tb_3 (n := 222) rfl rfl, ts_2 (n := 14) (q := (am_y 103, _)) rfl rfl⟩)⟩
set_option maxRecDepth 20000 in
theorem mk_X8_keepAct : am_mok 104 := ⟨tb_3 (n := 231) rfl rfl, tb_1 (n := 1) rfl rfl, (fun h => absurd h (by decide)), (fun _ => ⟨tb_3 (n := 230) rfl rfl, ts_2 (n := 15) (q := (am_y 104, _)) rfl rfl⟩)⟩
set_option maxRecDepth 20000 in
theorem mk_X8_prepare : am_mok 105 := ⟨tb_3 (n := 219) rfl rfl, tb_1 (n := 1) rfl rfl, (fun h => absurd h (by decide)), (fun _ => ⟨tb_3 (n := 217) rfl rfl, tb_3 (n := 218) rfl rfl⟩)⟩
set_option maxRecDepth 20000 in
theorem mk_X8_steam : am_mok 106 := ⟨tb_3 (n := 239) rfl rfl, tb_1 (n := 1) rfl rfl, (fun h => absurd h (by decide)), (fun _ => ⟨tb_3 (n := 237) rfl rfl, tb_3 (n := 238) rfl rfl⟩)⟩
set_option maxRecDepth 20000 in
theorem mk_X8_swap : am_mok 107 := ⟨tb_4 (n := 3) rfl rfl, tb_1 (n := 1) rfl rfl, (fun h => absurd h (by decide)), (fun _ => ⟨tb_4 (n := 1) rfl rfl, tb_4 (n := 2) rfl rfl⟩)⟩
set_option maxRecDepth 20000 in
theorem mk_X8_forge : am_mok 108 := ⟨tb_4 (n := 7) rfl rfl, tb_1 (n := 1) rfl rfl, (fun h => absurd h (by decide)), (fun _ => ⟨tb_4 (n := 5) rfl rfl, tb_4 (n := 6) rfl rfl⟩)⟩
set_option maxRecDepth 20000 in
theorem mk_X8_opens : am_mok 109 := ⟨tb_4 (n := 11) rfl rfl, tb_1 (n := 1) rfl rfl, (fun h => absurd h (by decide)), (fun _ => ⟨tb_4 (n := 9) rfl rfl, tb_4 (n := 10) rfl rfl⟩)⟩
set_option maxRecDepth 20000 in
theorem mk_X8_year : am_mok 110 := ⟨tb_4 (n := 24) rfl rfl, tb_1 (n := 1) rfl rfl, (fun h => absurd h (by decide)), (fun _ => ⟨tb_4 (n := 22) rfl rfl, tb_4 (n := 23) rfl rfl⟩)⟩
set_option maxRecDepth 20000 in
theorem mk_X8_undo : am_mok 111 := ⟨tb_4 (n := 57) rfl rfl, tb_1 (n := 1) rfl rfl, (fun h => absurd h (by decide)), (fun _ => ⟨tb_4 (n := 55) rfl rfl, tb_4 (n := 56) rfl rfl⟩)⟩
set_option maxRecDepth 20000 in
theorem mk_X8_redo : am_mok 112 := ⟨tb_4 (n := 65) rfl rfl, tb_1 (n := 1) rfl rfl, (fun h => absurd h (by decide)), (fun _ => ⟨tb_4 (n := 63) rfl rfl, tb_4 (n := 64) rfl rfl⟩)⟩
set_option maxRecDepth 20000 in
theorem mk_X8_odds : am_mok 113 := ⟨tb_4 (n := 73) rfl rfl, tb_1 (n := 1) rfl rfl, (fun h => absurd h (by decide)), (fun _ => ⟨tb_4 (n := 71) rfl rfl, tb_4 (n := 72) rfl rfl⟩)⟩
set_option maxRecDepth 20000 in
theorem mk_X8_hope : am_mok 114 := ⟨tb_4 (n := 120) rfl rfl, tb_1 (n := 1) rfl rfl, (fun h => absurd h (by decide)), (fun _ => ⟨tb_4 (n := 118) rfl rfl, tb_4 (n := 119) rfl rfl⟩)⟩
set_option maxRecDepth 20000 in
theorem mk_X8_partOfLowestTerms : am_mok 115 := ⟨tb_4 (n := 112) rfl rfl, tb_1 (n := 1) rfl rfl, (fun _ => tb_4 (n := 111) rfl rfl), (fun h => absurd h (by decide))⟩
set_option maxRecDepth 20000 in
theorem mk_X8_greatestDivisor : am_mok 116 := ⟨tb_4 (n := 115) rfl rfl, tb_1 (n := 1) rfl rfl, (fun _ => tb_4 (n := 114) rfl rfl), (fun h => absurd h (by decide))⟩
set_option maxRecDepth 20000 in
theorem mk_X8_life : am_mok 117 := ⟨tb_4 (n := 129) rfl rfl, tb_1 (n := 1) rfl rfl, (fun h => absurd h (by decide)), (fun _ => ⟨tb_4 (n := 127) rfl rfl, tb_4 (n := 128) rfl rfl⟩)⟩
set_option maxRecDepth 20000 in
theorem mk_X8_lay : am_mok 118 := ⟨tb_4 (n := 150) rfl rfl, tb_1 (n := 1) rfl rfl, (fun h => absurd h (by decide)), (fun _ => ⟨tb_4 (n := 149) rfl rfl, ts_3 (n := 7) (q := (am_y 118, _)) rfl rfl⟩)⟩
set_option maxRecDepth 20000 in
theorem mk_X8_able : am_mok 119 := ⟨tb_4 (n := 154) rfl rfl, tb_1 (n := 1) rfl rfl, (fun h => absurd h (by decide)), (fun _ => ⟨tb_4 (n := 152) rfl rfl, tb_4 (n := 153) rfl rfl⟩)⟩
set_option maxRecDepth 20000 in
theorem mk_X8_ready : am_mok 120 := ⟨tb_4 (n := 163) rfl rfl, tb_1 (n := 1) rfl rfl, (fun h => absurd h (by decide)), (fun _ => ⟨tb_4 (n := 161) rfl rfl, tb_4 (n := 162) rfl rfl⟩)⟩
set_option maxRecDepth 20000 in
theorem mk_X8_lost : am_mok 121 := ⟨tb_4 (n := 171) rfl rfl, tb_1 (n := 1) rfl rfl, (fun h => absurd h (by decide)), (fun _ => ⟨tb_4 (n := 169) rfl rfl, tb_4 (n := 170) rfl rfl⟩)⟩
set_option maxRecDepth 20000 in
theorem mk_X8_will : am_mok 122 := ⟨tb_4 (n := 177) rfl rfl, tb_1 (n := 1) rfl rfl, (fun h => absurd h (by decide)), (fun _ => ⟨tb_4 (n := 175) rfl rfl, tb_4 (n := 176) rfl rfl⟩)⟩
set_option maxRecDepth 20000 in
theorem mk_X8_first : am_mok 123 := ⟨tb_4 (n := 185) rfl rfl, tb_1 (n := 1) rfl rfl, (fun h => absurd h (by decide)), (fun _ => ⟨tb_4 (n := 183) rfl rfl, tb_4 (n := 184) rfl rfl⟩)⟩
set_option maxRecDepth 20000 in
theorem mk_X8_firstNewFailure : am_mok 124 := ⟨tb_4 (n := 189) rfl rfl, tb_1 (n := 1) rfl rfl, (fun h => absurd h (by decide)), (fun _ => ⟨tb_4 (n := 188) rfl rfl, ts_3 (n := 8) (q := (am_y 124, _)) rfl rfl⟩)⟩
set_option maxRecDepth 20000 in
theorem mk_X8_rings : am_mok 125 := ⟨tb_4 (n := 193) rfl rfl, tb_1 (n := 1) rfl rfl, (fun h => absurd h (by decide)), (fun _ => ⟨tb_4 (n := 191) rfl rfl, tb_4 (n := 192) rfl rfl⟩)⟩
set_option maxRecDepth 20000 in
theorem mk_X8_opening : am_mok 126 := ⟨tb_4 (n := 231) rfl rfl, tb_1 (n := 1) rfl rfl, (fun h => absurd h (by decide)), (fun _ => ⟨tb_4 (n := 229) rfl rfl, tb_4 (n := 230) rfl rfl⟩)⟩
set_option maxRecDepth 20000 in
theorem mk_X8_law : am_mok 127 := ⟨tb_5 (n := 12) rfl rfl, tb_1 (n := 1) rfl rfl, (fun h => absurd h (by decide)), (fun _ => ⟨tb_5 (n := 10) rfl rfl, tb_5 (n := 11) rfl rfl⟩)⟩
set_option maxRecDepth 20000 in
theorem mk_X8_doneAtLast : am_mok 128 := ⟨tb_5 (n := 16) rfl rfl, tb_1 (n := 1) rfl rfl, (fun h => absurd h (by decide)), (fun _ => ⟨tb_5 (n := 15) rfl rfl, ts_4 (n := 0) (q := (am_y 128, _)) rfl rfl⟩)⟩
set_option maxRecDepth 20000 in
theorem mk_X8_lies : am_mok 129 := ⟨tb_5 (n := 20) rfl rfl, tb_1 (n := 1) rfl rfl, (fun h => absurd h (by decide)), (fun _ => ⟨tb_5 (n := 18) rfl rfl, tb_5 (n := 19) rfl rfl⟩)⟩
set_option maxRecDepth 20000 in
theorem mk_X8_sign : am_mok 130 := ⟨tb_5 (n := 24) rfl rfl, tb_1 (n := 1) rfl rfl, (fun h => absurd h (by decide)), (fun _ => ⟨tb_5 (n := 22) rfl rfl, tb_5 (n := 23) rfl rfl⟩)⟩
set_option maxRecDepth 20000 in
theorem mk_X8_untell : am_mok 131 := ⟨tb_5 (n := 32) rfl rfl, tb_1 (n := 1) rfl rfl, (fun h => absurd h (by decide)), (fun _ => ⟨tb_5 (n := 30) rfl rfl, tb_5 (n := 31) rfl rfl⟩)⟩
set_option maxRecDepth 20000 in
theorem mk_X8_later : am_mok 132 := ⟨tb_5 (n := 40) rfl rfl, tb_1 (n := 1) rfl rfl, (fun h => absurd h (by decide)), (fun _ => ⟨tb_5 (n := 38) rfl rfl, tb_5 (n := 39) rfl rfl⟩)⟩
set_option maxRecDepth 20000 in
theorem mk_X8_meant : am_mok 133 := ⟨tb_5 (n := 45) rfl rfl, tb_1 (n := 1) rfl rfl, (fun h => absurd h (by decide)), (fun _ => ⟨tb_5 (n := 43) rfl rfl, tb_5 (n := 44) rfl rfl⟩)⟩
set_option maxRecDepth 20000 in
theorem mk_X8_likely : am_mok 134 := ⟨tb_5 (n := 65) rfl rfl, tb_1 (n := 1) rfl rfl, (fun h => absurd h (by decide)), (fun _ => ⟨tb_5 (n := 63) rfl rfl, tb_5 (n := 64) rfl rfl⟩)⟩
set_option maxRecDepth 20000 in
theorem mk_X8_ask : am_mok 135 := ⟨tb_5 (n := 69) rfl rfl, tb_1 (n := 1) rfl rfl, (fun h => absurd h (by decide)), (fun _ => ⟨tb_5 (n := 67) rfl rfl, tb_5 (n := 68) rfl rfl⟩)⟩
set_option maxRecDepth 20000 in
theorem mk_X8_image : am_mok 136 := ⟨tb_5 (n := 77) rfl rfl, tb_1 (n := 1) rfl rfl, (fun h => absurd h (by decide)), (fun _ => ⟨tb_5 (n := 75) rfl rfl, tb_5 (n := 76) rfl rfl⟩)⟩
set_option maxRecDepth 20000 in
theorem mk_X8_back : am_mok 137 := ⟨tb_5 (n := 82) rfl rfl, tb_1 (n := 1) rfl rfl, (fun h => absurd h (by decide)), (fun _ => ⟨tb_5 (n := 80) rfl rfl, tb_5 (n := 81) rfl rfl⟩)⟩
set_option maxRecDepth 20000 in
theorem mk_X8_about : am_mok 138 := ⟨tb_5 (n := 86) rfl rfl, tb_1 (n := 1) rfl rfl, (fun h => absurd h (by decide)), (fun _ => ⟨tb_5 (n := 84) rfl rfl, tb_5 (n := 85) rfl rfl⟩)⟩
set_option maxRecDepth 20000 in
theorem mk_X9_feed : am_mok 139 := ⟨tb_6 (n := 100) rfl rfl, tb_1 (n := 15) rfl rfl, (fun h => absurd h (by decide)), (fun _ => ⟨tb_6 (n := 98) rfl rfl, tb_6 (n := 99) rfl rfl⟩)⟩
set_option maxRecDepth 20000 in
theorem mk_X9_four : am_mok 140 := ⟨tb_6 (n := 104) rfl rfl, tb_1 (n := 15) rfl rfl, (fun h => absurd h (by decide)), (fun _ => ⟨tb_6 (n := 103) rfl rfl, ts_4 (n := 3) (q := (am_y 140, _)) rfl rfl⟩)⟩
set_option maxRecDepth 20000 in
theorem mk_X9_end : am_mok 141 := ⟨tb_6 (n := 108) rfl rfl, tb_1 (n := 15) rfl rfl, (fun h => absurd h (by decide)), (fun _ => ⟨tb_6 (n := 106) rfl rfl, tb_6 (n := 107) rfl rfl⟩)⟩
set_option maxRecDepth 20000 in
theorem mk_X9_here : am_mok 142 := ⟨tb_6 (n := 124) rfl rfl, tb_1 (n := 15) rfl rfl, (fun h => absurd h (by decide)), (fun _ => ⟨tb_6 (n := 123) rfl rfl, ts_4 (n := 6) (q := (am_y 142, _)) rfl rfl⟩)⟩
set_option maxRecDepth 20000 in
theorem mk_X9_isLetter : am_mok 143 := ⟨tb_6 (n := 127) rfl rfl, tb_1 (n := 15) rfl rfl, (fun _ => tb_6 (n := 126) rfl rfl), (fun h => absurd h (by decide))⟩
set_option maxRecDepth 20000 in
theorem mk_X9_isDigit : am_mok 144 := ⟨tb_6 (n := 130) rfl rfl, tb_1 (n := 15) rfl rfl, (fun _ => tb_6 (n := 129) rfl rfl), (fun h => absurd h (by decide))⟩
set_option maxRecDepth 20000 in
theorem mk_X9_isSign : am_mok 145 := ⟨tb_6 (n := 133) rfl rfl, tb_1 (n := 15) rfl rfl, (fun _ => tb_6 (n := 132) rfl rfl), (fun h => absurd h (by decide))⟩
set_option maxRecDepth 20000 in
theorem mk_X9_token : am_mok 146 := ⟨tb_6 (n := 120) rfl rfl, tb_1 (n := 15) rfl rfl, (fun h => absurd h (by decide)), (fun _ => ⟨tb_6 (n := 119) rfl rfl, ts_4 (n := 5) (q := (am_y 146, _)) rfl rfl⟩)⟩
set_option maxRecDepth 20000 in
theorem mk_X9_wrong : am_mok 147 := ⟨tb_6 (n := 182) rfl rfl, tb_1 (n := 15) rfl rfl, (fun h => absurd h (by decide)), (fun _ => ⟨tb_6 (n := 181) rfl rfl, ts_4 (n := 13) (q := (am_y 147, _)) rfl rfl⟩)⟩
set_option maxRecDepth 20000 in
theorem mk_X9_isWord : am_mok 148 := ⟨tb_6 (n := 142) rfl rfl, tb_1 (n := 15) rfl rfl, (fun h => absurd h (by decide)), (fun _ => ⟨tb_6 (n := 141) rfl rfl, ts_4 (n := 8) (q := (am_y 148, _)) rfl rfl⟩)⟩
set_option maxRecDepth 20000 in
theorem mk_X9_isOwn : am_mok 149 := ⟨tb_6 (n := 158) rfl rfl, tb_1 (n := 15) rfl rfl, (fun h => absurd h (by decide)), (fun _ => ⟨tb_6 (n := 157) rfl rfl, ts_4 (n := 12) (q := (am_y 149, _)) rfl rfl⟩)⟩
set_option maxRecDepth 20000 in
theorem mk_X9_isName : am_mok 150 := ⟨tb_6 (n := 154) rfl rfl, tb_1 (n := 15) rfl rfl, (fun h => absurd h (by decide)), (fun _ => ⟨tb_6 (n := 153) rfl rfl, ts_4 (n := 11) (q := (am_y 150, _)) rfl rfl⟩)⟩
set_option maxRecDepth 20000 in
theorem mk_X9_want : am_mok 151 := ⟨tb_6 (n := 194) rfl rfl, tb_1 (n := 15) rfl rfl, (fun h => absurd h (by decide)), (fun _ => ⟨tb_6 (n := 193) rfl rfl, ts_5 (n := 0) (q := (am_y 151, _)) rfl rfl⟩)⟩
set_option maxRecDepth 20000 in
theorem mk_X9_toldNumber : am_mok 152 := ⟨tb_6 (n := 202) rfl rfl, tb_1 (n := 15) rfl rfl, (fun h => absurd h (by decide)), (fun _ => ⟨tb_6 (n := 201) rfl rfl, ts_5 (n := 2) (q := (am_y 152, _)) rfl rfl⟩)⟩
set_option maxRecDepth 20000 in
theorem mk_X9_told : am_mok 153 := ⟨tb_6 (n := 210) rfl rfl, tb_1 (n := 15) rfl rfl, (fun h => absurd h (by decide)), (fun _ => ⟨tb_6 (n := 209) rfl rfl, ts_5 (n := 4) (q := (am_y 153, _)) rfl rfl⟩)⟩
set_option maxRecDepth 20000 in
theorem mk_X9_option : am_mok 154 := ⟨tb_6 (n := 206) rfl rfl, tb_1 (n := 15) rfl rfl, (fun h => absurd h (by decide)), (fun _ => ⟨tb_6 (n := 205) rfl rfl, ts_5 (n := 3) (q := (am_y 154, _)) rfl rfl⟩)⟩
set_option maxRecDepth 20000 in
theorem mk_X9_find : am_mok 155 := ⟨tb_6 (n := 186) rfl rfl, tb_1 (n := 15) rfl rfl, (fun h => absurd h (by decide)), (fun _ => ⟨tb_6 (n := 185) rfl rfl, ts_4 (n := 14) (q := (am_y 155, _)) rfl rfl⟩)⟩
set_option maxRecDepth 20000 in
theorem mk_X9_newName : am_mok 156 := ⟨tb_6 (n := 150) rfl rfl, tb_1 (n := 15) rfl rfl, (fun h => absurd h (by decide)), (fun _ => ⟨tb_6 (n := 149) rfl rfl, ts_4 (n := 10) (q := (am_y 156, _)) rfl rfl⟩)⟩
set_option maxRecDepth 20000 in
theorem mk_X9_oldName : am_mok 157 := ⟨tb_6 (n := 198) rfl rfl, tb_1 (n := 15) rfl rfl, (fun h => absurd h (by decide)), (fun _ => ⟨tb_6 (n := 197) rfl rfl, ts_5 (n := 1) (q := (am_y 157, _)) rfl rfl⟩)⟩
set_option maxRecDepth 20000 in
theorem mk_X9_add : am_mok 158 := ⟨tb_7 (n := 21) rfl rfl, tb_1 (n := 15) rfl rfl, (fun h => absurd h (by decide)), (fun _ => ⟨tb_7 (n := 20) rfl rfl, ts_6 (n := 0) (q := (am_y 158, _)) rfl rfl⟩)⟩
set_option maxRecDepth 20000 in
theorem mk_X9_tight : am_mok 159 := ⟨tb_7 (n := 1) rfl rfl, tb_1 (n := 15) rfl rfl, (fun _ => tb_7 (n := 0) rfl rfl), (fun h => absurd h (by decide))⟩
set_option maxRecDepth 20000 in
theorem mk_X9_close : am_mok 160 := ⟨tb_7 (n := 33) rfl rfl, tb_1 (n := 15) rfl rfl, (fun h => absurd h (by decide)), (fun _ => ⟨tb_7 (n := 32) rfl rfl, ts_6 (n := 3) (q := (am_y 160, _)) rfl rfl⟩)⟩
set_option maxRecDepth 20000 in
theorem mk_X9_hasRelation : am_mok 161 := ⟨tb_7 (n := 37) rfl rfl, tb_1 (n := 15) rfl rfl, (fun h => absurd h (by decide)), (fun _ => ⟨tb_7 (n := 36) rfl rfl, ts_6 (n := 4) (q := (am_y 161, _)) rfl rfl⟩)⟩
set_option maxRecDepth 20000 in
theorem mk_X9_mayNot : am_mok 162 := ⟨tb_6 (n := 238) rfl rfl, tb_1 (n := 15) rfl rfl, (fun h => absurd h (by decide)), (fun _ => ⟨tb_6 (n := 237) rfl rfl, ts_5 (n := 11) (q := (am_y 162, _)) rfl rfl⟩)⟩
set_option maxRecDepth 20000 in
theorem mk_X9_asked : am_mok 163 := ⟨tb_7 (n := 17) rfl rfl, tb_1 (n := 15) rfl rfl, (fun h => absurd h (by decide)), (fun _ => ⟨tb_7 (n := 16) rfl rfl, ts_5 (n := 15) (q := (am_y 163, _)) rfl rfl⟩)⟩
set_option maxRecDepth 20000 in
theorem mk_X9_isFull : am_mok 164 := ⟨tb_7 (n := 9) rfl rfl, tb_1 (n := 15) rfl rfl, (fun h => absurd h (by decide)), (fun _ => ⟨tb_7 (n := 8) rfl rfl, ts_5 (n := 13) (q := (am_y 164, _)) rfl rfl⟩)⟩
set_option maxRecDepth 20000 in
theorem mk_X9_countUnit : am_mok 165 := ⟨tb_7 (n := 13) rfl rfl, tb_1 (n := 15) rfl rfl, (fun h => absurd h (by decide)), (fun _ => ⟨tb_7 (n := 12) rfl rfl, ts_5 (n := 14) (q := (am_y 165, _)) rfl rfl⟩)⟩
set_option maxRecDepth 20000 in
theorem mk_X9_openUp : am_mok 166 := ⟨tb_7 (n := 5) rfl rfl, tb_1 (n := 15) rfl rfl, (fun h => absurd h (by decide)), (fun _ => ⟨tb_7 (n := 4) rfl rfl, ts_5 (n := 12) (q := (am_y 166, _)) rfl rfl⟩)⟩
set_option maxRecDepth 20000 in
theorem mk_X9_unit : am_mok 167 := ⟨tb_6 (n := 234) rfl rfl, tb_1 (n := 15) rfl rfl, (fun h => absurd h (by decide)), (fun _ => ⟨tb_6 (n := 233) rfl rfl, ts_5 (n := 10) (q := (am_y 167, _)) rfl rfl⟩)⟩
set_option maxRecDepth 20000 in
theorem mk_X9_signHere : am_mok 168 := ⟨tb_7 (n := 25) rfl rfl, tb_1 (n := 15) rfl rfl, (fun h => absurd h (by decide)), (fun _ => ⟨tb_7 (n := 24) rfl rfl, ts_6 (n := 1) (q := (am_y 168, _)) rfl rfl⟩)⟩
set_option maxRecDepth 20000 in
theorem mk_X9_hasBracket : am_mok 169 := ⟨tb_7 (n := 29) rfl rfl, tb_1 (n := 15) rfl rfl, (fun h => absurd h (by decide)), (fun _ => ⟨tb_7 (n := 28) rfl rfl, ts_6 (n := 2) (q := (am_y 169, _)) rfl rfl⟩)⟩
set_option maxRecDepth 20000 in
theorem mk_X9_readTeach : am_mok 170 := ⟨tb_6 (n := 230) rfl rfl, tb_1 (n := 15) rfl rfl, (fun h => absurd h (by decide)), (fun _ => ⟨tb_6 (n := 229) rfl rfl, ts_5 (n := 9) (q := (am_y 170, _)) rfl rfl⟩)⟩
set_option maxRecDepth 20000 in
theorem mk_X9_truth : am_mok 171 := ⟨tb_7 (n := 83) rfl rfl, tb_1 (n := 15) rfl rfl, (fun _ => tb_7 (n := 82) rfl rfl), (fun h => absurd h (by decide))⟩
set_option maxRecDepth 20000 in
theorem mk_X9_worked : am_mok 172 := ⟨tb_7 (n := 178) rfl rfl, tb_1 (n := 15) rfl rfl, (fun _ => tb_7 (n := 177) rfl rfl), (fun h => absurd h (by decide))⟩
set_option maxRecDepth 20000 in
theorem mk_X9_taught : am_mok 173 := ⟨tb_7 (n := 175) rfl rfl, tb_1 (n := 15) rfl rfl, (fun h => absurd h (by decide)), (fun _ => ⟨tb_7 (n := 174) rfl rfl, ts_7 (n := 8) (q := (am_y 173, _)) rfl rfl⟩)⟩
set_option maxRecDepth 20000 in
theorem mk_X9_readSkill : am_mok 174 := ⟨tb_6 (n := 146) rfl rfl, tb_1 (n := 15) rfl rfl, (fun h => absurd h (by decide)), (fun _ => ⟨tb_6 (n := 145) rfl rfl, ts_4 (n := 9) (q := (am_y 174, _)) rfl rfl⟩)⟩
set_option maxRecDepth 20000 in
theorem mk_X9_readOrder : am_mok 175 := ⟨tb_6 (n := 190) rfl rfl, tb_1 (n := 15) rfl rfl, (fun h => absurd h (by decide)), (fun _ => ⟨tb_6 (n := 189) rfl rfl, ts_4 (n := 15) (q := (am_y 175, _)) rfl rfl⟩)⟩
set_option maxRecDepth 20000 in
theorem mk_X9_readParish : am_mok 176 := ⟨tb_6 (n := 214) rfl rfl, tb_1 (n := 15) rfl rfl, (fun h => absurd h (by decide)), (fun _ => ⟨tb_6 (n := 213) rfl rfl, ts_5 (n := 5) (q := (am_y 176, _)) rfl rfl⟩)⟩
set_option maxRecDepth 20000 in
theorem mk_X9_readOdds : am_mok 177 := ⟨tb_6 (n := 218) rfl rfl, tb_1 (n := 15) rfl rfl, (fun h => absurd h (by decide)), (fun _ => ⟨tb_6 (n := 217) rfl rfl, ts_5 (n := 6) (q := (am_y 177, _)) rfl rfl⟩)⟩
set_option maxRecDepth 20000 in
theorem mk_X9_readPerson : am_mok 178 := ⟨tb_6 (n := 222) rfl rfl, tb_1 (n := 15) rfl rfl, (fun h => absurd h (by decide)), (fun _ => ⟨tb_6 (n := 221) rfl rfl, ts_5 (n := 7) (q := (am_y 178, _)) rfl rfl⟩)⟩
set_option maxRecDepth 20000 in
theorem mk_X9_readUndoes : am_mok 179 := ⟨tb_6 (n := 226) rfl rfl, tb_1 (n := 15) rfl rfl, (fun h => absurd h (by decide)), (fun _ => ⟨tb_6 (n := 225) rfl rfl, ts_5 (n := 8) (q := (am_y 179, _)) rfl rfl⟩)⟩
set_option maxRecDepth 20000 in
theorem mk_X9_readLine : am_mok 180 := ⟨tb_6 (n := 137) rfl rfl, tb_1 (n := 15) rfl rfl, (fun h => absurd h (by decide)), (fun _ => ⟨tb_6 (n := 136) rfl rfl, ts_4 (n := 7) (q := (am_y 180, _)) rfl rfl⟩)⟩
set_option maxRecDepth 20000 in
theorem mk_X9_readAll : am_mok 181 := ⟨tb_6 (n := 116) rfl rfl, tb_1 (n := 15) rfl rfl, (fun h => absurd h (by decide)), (fun _ => ⟨tb_6 (n := 115) rfl rfl, ts_4 (n := 4) (q := (am_y 181, _)) rfl rfl⟩)⟩
set_option maxRecDepth 20000 in
theorem mk_X9_town : am_mok 182 := ⟨tb_6 (n := 112) rfl rfl, tb_1 (n := 15) rfl rfl, (fun h => absurd h (by decide)), (fun _ => ⟨tb_6 (n := 110) rfl rfl, tb_6 (n := 111) rfl rfl⟩)⟩
set_option maxRecDepth 20000 in
theorem mk_X9_layTown : am_mok 183 := ⟨tb_7 (n := 41) rfl rfl, tb_1 (n := 15) rfl rfl, (fun h => absurd h (by decide)), (fun _ => ⟨tb_7 (n := 40) rfl rfl, ts_6 (n := 5) (q := (am_y 183, _)) rfl rfl⟩)⟩
set_option maxRecDepth 20000 in
theorem mk_X9_allOdds : am_mok 184 := ⟨tb_7 (n := 49) rfl rfl, tb_1 (n := 15) rfl rfl, (fun h => absurd h (by decide)), (fun _ => ⟨tb_7 (n := 48) rfl rfl, ts_6 (n := 7) (q := (am_y 184, _)) rfl rfl⟩)⟩
set_option maxRecDepth 20000 in
theorem mk_X9_drawOf : am_mok 185 := ⟨tb_7 (n := 45) rfl rfl, tb_1 (n := 15) rfl rfl, (fun h => absurd h (by decide)), (fun _ => ⟨tb_7 (n := 44) rfl rfl, ts_6 (n := 6) (q := (am_y 185, _)) rfl rfl⟩)⟩
set_option maxRecDepth 20000 in
theorem mk_X9_fault : am_mok 186 := ⟨tb_7 (n := 53) rfl rfl, tb_1 (n := 15) rfl rfl, (fun h => absurd h (by decide)), (fun _ => ⟨tb_7 (n := 51) rfl rfl, tb_7 (n := 52) rfl rfl⟩)⟩
set_option maxRecDepth 20000 in
theorem mk_X9_isIn : am_mok 187 := ⟨tb_7 (n := 64) rfl rfl, tb_1 (n := 15) rfl rfl, (fun _ => tb_7 (n := 63) rfl rfl), (fun h => absurd h (by decide))⟩
set_option maxRecDepth 20000 in
theorem mk_X9_isPerson : am_mok 188 := ⟨tb_7 (n := 61) rfl rfl, tb_1 (n := 15) rfl rfl, (fun h => absurd h (by decide)), (fun _ => ⟨tb_7 (n := 60) rfl rfl, ts_6 (n := 8) (q := (am_y 188, _)) rfl rfl⟩)⟩
set_option maxRecDepth 20000 in
theorem mk_X9_isSkill : am_mok 189 := ⟨tb_7 (n := 91) rfl rfl, tb_1 (n := 15) rfl rfl, (fun h => absurd h (by decide)), (fun _ => ⟨tb_7 (n := 90) rfl rfl, ts_6 (n := 13) (q := (am_y 189, _)) rfl rfl⟩)⟩
set_option maxRecDepth 20000 in
theorem mk_X9_isOrder : am_mok 190 := ⟨tb_7 (n := 99) rfl rfl, tb_1 (n := 15) rfl rfl, (fun h => absurd h (by decide)), (fun _ => ⟨tb_7 (n := 98) rfl rfl, ts_6 (n := 14) (q := (am_y 190, _)) rfl rfl⟩)⟩
set_option maxRecDepth 20000 in
theorem mk_X9_load : am_mok 191 := ⟨tb_7 (n := 68) rfl rfl, tb_1 (n := 15) rfl rfl, (fun h => absurd h (by decide)), (fun _ => ⟨tb_7 (n := 67) rfl rfl, ts_6 (n := 9) (q := (am_y 191, _)) rfl rfl⟩)⟩
set_option maxRecDepth 20000 in
theorem mk_X9_isShut : am_mok 192 := ⟨tb_7 (n := 167) rfl rfl, tb_1 (n := 15) rfl rfl, (fun h => absurd h (by decide)), (fun _ => ⟨tb_7 (n := 166) rfl rfl, ts_7 (n := 6) (q := (am_y 192, _)) rfl rfl⟩)⟩
set_option maxRecDepth 20000 in
theorem mk_X9_levelOf : am_mok 193 := ⟨tb_7 (n := 80) rfl rfl, tb_1 (n := 15) rfl rfl, (fun h => absurd h (by decide)), (fun _ => ⟨tb_7 (n := 79) rfl rfl, ts_6 (n := 12) (q := (am_y 193, _)) rfl rfl⟩)⟩
set_option maxRecDepth 20000 in
theorem mk_X9_can : am_mok 194 := ⟨tb_7 (n := 76) rfl rfl, tb_1 (n := 15) rfl rfl, (fun h => absurd h (by decide)), (fun _ => ⟨tb_7 (n := 75) rfl rfl, ts_6 (n := 11) (q := (am_y 194, _)) rfl rfl⟩)⟩
set_option maxRecDepth 20000 in
theorem mk_X9_isUndone : am_mok 195 := ⟨tb_7 (n := 151) rfl rfl, tb_1 (n := 15) rfl rfl, (fun h => absurd h (by decide)), (fun _ => ⟨tb_7 (n := 150) rfl rfl, ts_7 (n := 3) (q := (am_y 195, _)) rfl rfl⟩)⟩
set_option maxRecDepth 20000 in
theorem mk_X9_openOf : am_mok 196 := ⟨tb_7 (n := 147) rfl rfl, tb_1 (n := 15) rfl rfl, (fun h => absurd h (by decide)), (fun _ => ⟨tb_7 (n := 146) rfl rfl, ts_7 (n := 2) (q := (am_y 196, _)) rfl rfl⟩)⟩
set_option maxRecDepth 20000 in
theorem mk_X9_learn : am_mok 197 := ⟨tb_7 (n := 171) rfl rfl, tb_1 (n := 15) rfl rfl, (fun h => absurd h (by decide)), (fun _ => ⟨tb_7 (n := 170) rfl rfl, ts_7 (n := 7) (q := (am_y 197, _)) rfl rfl⟩)⟩
set_option maxRecDepth 20000 in
theorem mk_X9_goYear : am_mok 198 := ⟨tb_7 (n := 163) rfl rfl, tb_1 (n := 15) rfl rfl, (fun h => absurd h (by decide)), (fun _ => ⟨tb_7 (n := 162) rfl rfl, ts_7 (n := 5) (q := (am_y 198, _)) rfl rfl⟩)⟩
set_option maxRecDepth 20000 in
theorem mk_X9_canSet : am_mok 199 := ⟨tb_7 (n := 72) rfl rfl, tb_1 (n := 15) rfl rfl, (fun h => absurd h (by decide)), (fun _ => ⟨tb_7 (n := 71) rfl rfl, ts_6 (n := 10) (q := (am_y 199, _)) rfl rfl⟩)⟩
set_option maxRecDepth 20000 in
theorem mk_X9_person : am_mok 200 := ⟨tb_7 (n := 57) rfl rfl, tb_1 (n := 15) rfl rfl, (fun h => absurd h (by decide)), (fun _ => ⟨tb_7 (n := 55) rfl rfl, tb_7 (n := 56) rfl rfl⟩)⟩
set_option maxRecDepth 20000 in
theorem mk_X9_level : am_mok 201 := ⟨tb_7 (n := 87) rfl rfl, tb_1 (n := 15) rfl rfl, (fun h => absurd h (by decide)), (fun _ => ⟨tb_7 (n := 85) rfl rfl, tb_7 (n := 86) rfl rfl⟩)⟩
set_option maxRecDepth 20000 in
theorem mk_X9_order : am_mok 202 := ⟨tb_7 (n := 95) rfl rfl, tb_1 (n := 15) rfl rfl, (fun h => absurd h (by decide)), (fun _ => ⟨tb_7 (n := 93) rfl rfl, tb_7 (n := 94) rfl rfl⟩)⟩
set_option maxRecDepth 20000 in
theorem mk_X9_share : am_mok 203 := ⟨tb_7 (n := 103) rfl rfl, tb_1 (n := 15) rfl rfl, (fun h => absurd h (by decide)), (fun _ => ⟨tb_7 (n := 101) rfl rfl, tb_7 (n := 102) rfl rfl⟩)⟩
set_option maxRecDepth 20000 in
theorem mk_X9_manyOf : am_mok 204 := ⟨tb_7 (n := 111) rfl rfl, tb_1 (n := 15) rfl rfl, (fun h => absurd h (by decide)), (fun _ => ⟨tb_7 (n := 110) rfl rfl, ts_6 (n := 15) (q := (am_y 204, _)) rfl rfl⟩)⟩
set_option maxRecDepth 20000 in
theorem mk_X9_many : am_mok 205 := ⟨tb_7 (n := 107) rfl rfl, tb_1 (n := 15) rfl rfl, (fun h => absurd h (by decide)), (fun _ => ⟨tb_7 (n := 105) rfl rfl, tb_7 (n := 106) rfl rfl⟩)⟩
set_option maxRecDepth 20000 in
theorem mk_X9_done : am_mok 206 := ⟨tb_7 (n := 115) rfl rfl, tb_1 (n := 15) rfl rfl, (fun h => absurd h (by decide)), (fun _ => ⟨tb_7 (n := 113) rfl rfl, tb_7 (n := 114) rfl rfl⟩)⟩
set_option maxRecDepth 20000 in
theorem mk_X9_act : am_mok 207 := ⟨tb_7 (n := 127) rfl rfl, tb_1 (n := 15) rfl rfl, (fun h => absurd h (by decide)), (fun _ => ⟨tb_7 (n := 126) rfl rfl, ts_7 (n := 1) (q := (am_y 207, _)) rfl rfl⟩)⟩
set_option maxRecDepth 20000 in
theorem mk_X9_exchange : am_mok 208 := ⟨tb_7 (n := 186) rfl rfl, tb_1 (n := 15) rfl rfl, (fun h => absurd h (by decide)), (fun _ => ⟨tb_7 (n := 185) rfl rfl, ts_7 (n := 9) (q := (am_y 208, _)) rfl rfl⟩)⟩
set_option maxRecDepth 20000 in
theorem mk_X9_keep : am_mok 209 := ⟨tb_7 (n := 155) rfl rfl, tb_1 (n := 15) rfl rfl, (fun h => absurd h (by decide)), (fun _ => ⟨tb_7 (n := 154) rfl rfl, ts_7 (n := 4) (q := (am_y 209, _)) rfl rfl⟩)⟩
set_option maxRecDepth 20000 in
theorem mk_X9_isShutNow : am_mok 210 := ⟨tb_7 (n := 123) rfl rfl, tb_1 (n := 15) rfl rfl, (fun h => absurd h (by decide)), (fun _ => ⟨tb_7 (n := 122) rfl rfl, ts_7 (n := 0) (q := (am_y 210, _)) rfl rfl⟩)⟩
set_option maxRecDepth 20000 in
theorem mk_X9_prepare : am_mok 211 := ⟨tb_7 (n := 119) rfl rfl, tb_1 (n := 15) rfl rfl, (fun h => absurd h (by decide)), (fun _ => ⟨tb_7 (n := 117) rfl rfl, tb_7 (n := 118) rfl rfl⟩)⟩
set_option maxRecDepth 20000 in
theorem mk_X9_steam : am_mok 212 := ⟨tb_7 (n := 131) rfl rfl, tb_1 (n := 15) rfl rfl, (fun h => absurd h (by decide)), (fun _ => ⟨tb_7 (n := 129) rfl rfl, tb_7 (n := 130) rfl rfl⟩)⟩
set_option maxRecDepth 20000 in
theorem mk_X9_swap : am_mok 213 := ⟨tb_7 (n := 135) rfl rfl, tb_1 (n := 15) rfl rfl, (fun h => absurd h (by decide)), (fun _ => ⟨tb_7 (n := 133) rfl rfl, tb_7 (n := 134) rfl rfl⟩)⟩
set_option maxRecDepth 20000 in
theorem mk_X9_forge : am_mok 214 := ⟨tb_7 (n := 139) rfl rfl, tb_1 (n := 15) rfl rfl, (fun h => absurd h (by decide)), (fun _ => ⟨tb_7 (n := 137) rfl rfl, tb_7 (n := 138) rfl rfl⟩)⟩
set_option maxRecDepth 20000 in
theorem mk_X9_opens : am_mok 215 := ⟨tb_7 (n := 143) rfl rfl, tb_1 (n := 15) rfl rfl, (fun h => absurd h (by decide)), (fun _ => ⟨tb_7 (n := 141) rfl rfl, tb_7 (n := 142) rfl rfl⟩)⟩
set_option maxRecDepth 20000 in
theorem mk_X9_year : am_mok 216 := ⟨tb_7 (n := 159) rfl rfl, tb_1 (n := 15) rfl rfl, (fun h => absurd h (by decide)), (fun _ => ⟨tb_7 (n := 157) rfl rfl, tb_7 (n := 158) rfl rfl⟩)⟩
set_option maxRecDepth 20000 in
theorem mk_X9_undo : am_mok 217 := ⟨tb_7 (n := 182) rfl rfl, tb_1 (n := 15) rfl rfl, (fun h => absurd h (by decide)), (fun _ => ⟨tb_7 (n := 180) rfl rfl, tb_7 (n := 181) rfl rfl⟩)⟩
set_option maxRecDepth 20000 in
theorem mk_X9_redo : am_mok 218 := ⟨tb_7 (n := 190) rfl rfl, tb_1 (n := 15) rfl rfl, (fun h => absurd h (by decide)), (fun _ => ⟨tb_7 (n := 188) rfl rfl, tb_7 (n := 189) rfl rfl⟩)⟩
set_option maxRecDepth 20000 in
theorem mk_X9_yearsLeft : am_mok 219 := ⟨tb_7 (n := 198) rfl rfl, tb_1 (n := 15) rfl rfl, (fun h => absurd h (by decide)), (fun _ => ⟨tb_7 (n := 197) rfl rfl, ts_7 (n := 10) (q := (am_y 219, _)) rfl rfl⟩)⟩
set_option maxRecDepth 20000 in
theorem mk_X9_goAlone : am_mok 220 := ⟨tb_7 (n := 202) rfl rfl, tb_1 (n := 15) rfl rfl, (fun h => absurd h (by decide)), (fun _ => ⟨tb_7 (n := 201) rfl rfl, ts_7 (n := 11) (q := (am_y 220, _)) rfl rfl⟩)⟩
set_option maxRecDepth 20000 in
theorem mk_X9_isBlank : am_mok 221 := ⟨tb_7 (n := 210) rfl rfl, tb_1 (n := 15) rfl rfl, (fun h => absurd h (by decide)), (fun _ => ⟨tb_7 (n := 209) rfl rfl, ts_7 (n := 13) (q := (am_y 221, _)) rfl rfl⟩)⟩
set_option maxRecDepth 20000 in
theorem mk_X9_partsAll : am_mok 222 := ⟨tb_7 (n := 206) rfl rfl, tb_1 (n := 15) rfl rfl, (fun h => absurd h (by decide)), (fun _ => ⟨tb_7 (n := 205) rfl rfl, ts_7 (n := 12) (q := (am_y 222, _)) rfl rfl⟩)⟩
set_option maxRecDepth 20000 in
theorem mk_X9_partsOf : am_mok 223 := ⟨tb_7 (n := 214) rfl rfl, tb_1 (n := 15) rfl rfl, (fun h => absurd h (by decide)), (fun _ => ⟨tb_7 (n := 213) rfl rfl, ts_7 (n := 14) (q := (am_y 223, _)) rfl rfl⟩)⟩
set_option maxRecDepth 20000 in
theorem mk_X9_common : am_mok 224 := ⟨tb_7 (n := 217) rfl rfl, tb_1 (n := 15) rfl rfl, (fun _ => tb_7 (n := 216) rfl rfl), (fun h => absurd h (by decide))⟩
set_option maxRecDepth 20000 in
theorem mk_X9_odds : am_mok 225 := ⟨tb_7 (n := 194) rfl rfl, tb_1 (n := 15) rfl rfl, (fun h => absurd h (by decide)), (fun _ => ⟨tb_7 (n := 192) rfl rfl, tb_7 (n := 193) rfl rfl⟩)⟩
set_option maxRecDepth 20000 in
theorem mk_X9_worthsOf : am_mok 226 := ⟨tb_7 (n := 225) rfl rfl, tb_1 (n := 15) rfl rfl, (fun h => absurd h (by decide)), (fun _ => ⟨tb_7 (n := 224) rfl rfl, ts_7 (n := 15) (q := (am_y 226, _)) rfl rfl⟩)⟩
set_option maxRecDepth 20000 in
theorem mk_X9_hope : am_mok 227 := ⟨tb_7 (n := 221) rfl rfl, tb_1 (n := 15) rfl rfl, (fun h => absurd h (by decide)), (fun _ => ⟨tb_7 (n := 219) rfl rfl, tb_7 (n := 220) rfl rfl⟩)⟩
set_option maxRecDepth 20000 in
theorem mk_X9_able : am_mok 228 := ⟨tb_7 (n := 229) rfl rfl, tb_1 (n := 15) rfl rfl, (fun h => absurd h (by decide)), (fun _ => ⟨tb_7 (n := 227) rfl rfl, tb_7 (n := 228) rfl rfl⟩)⟩
set_option maxRecDepth 20000 in
theorem mk_X9_ready : am_mok 229 := ⟨tb_7 (n := 233) rfl rfl, tb_1 (n := 15) rfl rfl, (fun h => absurd h (by decide)), (fun _ => ⟨tb_7 (n := 231) rfl rfl, tb_7 (n := 232) rfl rfl⟩)⟩
set_option maxRecDepth 20000 in
theorem mk_X9_lost : am_mok 230 := ⟨tb_7 (n := 237) rfl rfl, tb_1 (n := 15) rfl rfl, (fun h => absurd h (by decide)), (fun _ => ⟨tb_7 (n := 235) rfl rfl, tb_7 (n := 236) rfl rfl⟩)⟩
set_option maxRecDepth 20000 in
theorem mk_X9_partsByShares : am_mok 231 := ⟨tb_8 (n := 5) rfl rfl, tb_1 (n := 15) rfl rfl, (fun h => absurd h (by decide)), (fun _ => ⟨tb_8 (n := 4) rfl rfl, ts_8 (n := 0) (q := (am_y 231, _)) rfl rfl⟩)⟩
set_option maxRecDepth 20000 in
theorem mk_X9_nextShare : am_mok 232 := ⟨tb_8 (n := 9) rfl rfl, tb_1 (n := 15) rfl rfl, (fun h => absurd h (by decide)), (fun _ => ⟨tb_8 (n := 8) rfl rfl, ts_8 (n := 1) (q := (am_y 232, _)) rfl rfl⟩)⟩
set_option maxRecDepth 20000 in
theorem mk_X9_life : am_mok 233 := ⟨tb_8 (n := 1) rfl rfl, tb_1 (n := 15) rfl rfl, (fun h => absurd h (by decide)), (fun _ => ⟨tb_7 (n := 239) rfl rfl, tb_8 (n := 0) rfl rfl⟩)⟩
set_option maxRecDepth 20000 in
theorem mk_X9_will : am_mok 234 := ⟨tb_8 (n := 13) rfl rfl, tb_1 (n := 15) rfl rfl, (fun h => absurd h (by decide)), (fun _ => ⟨tb_8 (n := 11) rfl rfl, tb_8 (n := 12) rfl rfl⟩)⟩
set_option maxRecDepth 20000 in
theorem mk_X9_failedFirst : am_mok 235 := ⟨tb_8 (n := 21) rfl rfl, tb_1 (n := 15) rfl rfl, (fun h => absurd h (by decide)), (fun _ => ⟨tb_8 (n := 20) rfl rfl, ts_8 (n := 2) (q := (am_y 235, _)) rfl rfl⟩)⟩
set_option maxRecDepth 20000 in
theorem mk_X9_first : am_mok 236 := ⟨tb_8 (n := 17) rfl rfl, tb_1 (n := 15) rfl rfl, (fun h => absurd h (by decide)), (fun _ => ⟨tb_8 (n := 15) rfl rfl, tb_8 (n := 16) rfl rfl⟩)⟩
set_option maxRecDepth 20000 in
theorem mk_X9_hasOf : am_mok 237 := ⟨tb_8 (n := 41) rfl rfl, tb_1 (n := 15) rfl rfl, (fun h => absurd h (by decide)), (fun _ => ⟨tb_8 (n := 40) rfl rfl, ts_8 (n := 6) (q := (am_y 237, _)) rfl rfl⟩)⟩
set_option maxRecDepth 20000 in
theorem mk_X9_layFirst : am_mok 238 := ⟨tb_8 (n := 33) rfl rfl, tb_1 (n := 15) rfl rfl, (fun h => absurd h (by decide)), (fun _ => ⟨tb_8 (n := 32) rfl rfl, ts_8 (n := 4) (q := (am_y 238, _)) rfl rfl⟩)⟩
set_option maxRecDepth 20000 in
theorem mk_X9_nextRow : am_mok 239 := ⟨tb_8 (n := 45) rfl rfl, tb_1 (n := 15) rfl rfl, (fun h => absurd h (by decide)), (fun _ => ⟨tb_8 (n := 44) rfl rfl, ts_8 (n := 7) (q := (am_y 239, _)) rfl rfl⟩)⟩
set_option maxRecDepth 20000 in
theorem mk_X9_exchangeRow : am_mok 240 := ⟨tb_8 (n := 49) rfl rfl, tb_1 (n := 15) rfl rfl, (fun h => absurd h (by decide)), (fun _ => ⟨tb_8 (n := 48) rfl rfl, ts_8 (n := 8) (q := (am_y 240, _)) rfl rfl⟩)⟩
set_option maxRecDepth 20000 in
theorem mk_X9_shutSet : am_mok 241 := ⟨tb_8 (n := 29) rfl rfl, tb_1 (n := 15) rfl rfl, (fun h => absurd h (by decide)), (fun _ => ⟨tb_8 (n := 28) rfl rfl, ts_8 (n := 3) (q := (am_y 241, _)) rfl rfl⟩)⟩
set_option maxRecDepth 20000 in
theorem mk_X9_ringWorth : am_mok 242 := ⟨tb_8 (n := 37) rfl rfl, tb_1 (n := 15) rfl rfl, (fun h => absurd h (by decide)), (fun _ => ⟨tb_8 (n := 36) rfl rfl, ts_8 (n := 5) (q := (am_y 242, _)) rfl rfl⟩)⟩
set_option maxRecDepth 20000 in
theorem mk_X9_rings : am_mok 243 := ⟨tb_8 (n := 25) rfl rfl, tb_1 (n := 15) rfl rfl, (fun h => absurd h (by decide)), (fun _ => ⟨tb_8 (n := 23) rfl rfl, tb_8 (n := 24) rfl rfl⟩)⟩
set_option maxRecDepth 20000 in
theorem mk_X9_doneBy : am_mok 244 := ⟨tb_8 (n := 57) rfl rfl, tb_1 (n := 15) rfl rfl, (fun h => absurd h (by decide)), (fun _ => ⟨tb_8 (n := 56) rfl rfl, ts_8 (n := 9) (q := (am_y 244, _)) rfl rfl⟩)⟩
set_option maxRecDepth 20000 in
theorem mk_X9_opening : am_mok 245 := ⟨tb_8 (n := 53) rfl rfl, tb_1 (n := 15) rfl rfl, (fun h => absurd h (by decide)), (fun _ => ⟨tb_8 (n := 51) rfl rfl, tb_8 (n := 52) rfl rfl⟩)⟩
set_option maxRecDepth 20000 in
theorem mk_X9_doneIf : am_mok 246 := ⟨tb_8 (n := 65) rfl rfl, tb_1 (n := 15) rfl rfl, (fun h => absurd h (by decide)), (fun _ => ⟨tb_8 (n := 64) rfl rfl, ts_8 (n := 10) (q := (am_y 246, _)) rfl rfl⟩)⟩
set_option maxRecDepth 20000 in
theorem mk_X9_law : am_mok 247 := ⟨tb_8 (n := 61) rfl rfl, tb_1 (n := 15) rfl rfl, (fun h => absurd h (by decide)), (fun _ => ⟨tb_8 (n := 59) rfl rfl, tb_8 (n := 60) rfl rfl⟩)⟩
set_option maxRecDepth 20000 in
theorem mk_X9_lies : am_mok 248 := ⟨tb_8 (n := 69) rfl rfl, tb_1 (n := 15) rfl rfl, (fun h => absurd h (by decide)), (fun _ => ⟨tb_8 (n := 67) rfl rfl, tb_8 (n := 68) rfl rfl⟩)⟩
set_option maxRecDepth 20000 in
theorem mk_X9_sign : am_mok 249 := ⟨tb_8 (n := 73) rfl rfl, tb_1 (n := 15) rfl rfl, (fun h => absurd h (by decide)), (fun _ => ⟨tb_8 (n := 71) rfl rfl, tb_8 (n := 72) rfl rfl⟩)⟩
set_option maxRecDepth 20000 in
theorem mk_X9_untell : am_mok 250 := ⟨tb_8 (n := 77) rfl rfl, tb_1 (n := 15) rfl rfl, (fun h => absurd h (by decide)), (fun _ => ⟨tb_8 (n := 75) rfl rfl, tb_8 (n := 76) rfl rfl⟩)⟩
set_option maxRecDepth 20000 in
theorem mk_X9_later : am_mok 251 := ⟨tb_8 (n := 81) rfl rfl, tb_1 (n := 15) rfl rfl, (fun h => absurd h (by decide)), (fun _ => ⟨tb_8 (n := 79) rfl rfl, tb_8 (n := 80) rfl rfl⟩)⟩
set_option maxRecDepth 20000 in
theorem mk_X9_markOf : am_mok 252 := ⟨tb_8 (n := 94) rfl rfl, tb_1 (n := 15) rfl rfl, (fun h => absurd h (by decide)), (fun _ => ⟨tb_8 (n := 93) rfl rfl, ts_8 (n := 12) (q := (am_y 252, _)) rfl rfl⟩)⟩
set_option maxRecDepth 20000 in
theorem mk_X9_isMeant : am_mok 253 := ⟨tb_8 (n := 90) rfl rfl, tb_1 (n := 15) rfl rfl, (fun h => absurd h (by decide)), (fun _ => ⟨tb_8 (n := 89) rfl rfl, ts_8 (n := 11) (q := (am_y 253, _)) rfl rfl⟩)⟩
set_option maxRecDepth 20000 in
theorem mk_X9_meant : am_mok 254 := ⟨tb_8 (n := 86) rfl rfl, tb_1 (n := 15) rfl rfl, (fun h => absurd h (by decide)), (fun _ => ⟨tb_8 (n := 84) rfl rfl, tb_8 (n := 85) rfl rfl⟩)⟩
set_option maxRecDepth 20000 in
theorem mk_X9_likely : am_mok 255 := ⟨tb_8 (n := 98) rfl rfl, tb_1 (n := 15) rfl rfl, (fun h => absurd h (by decide)), (fun _ => ⟨tb_8 (n := 96) rfl rfl, tb_8 (n := 97) rfl rfl⟩)⟩
set_option maxRecDepth 20000 in
theorem mk_X9_mostLeft : am_mok 256 := ⟨tb_8 (n := 107) rfl rfl, tb_1 (n := 15) rfl rfl, (fun h => absurd h (by decide)), (fun _ => ⟨tb_8 (n := 106) rfl rfl, ts_8 (n := 13) (q := (am_y 256, _)) rfl rfl⟩)⟩
set_option maxRecDepth 20000 in
theorem mk_X9_ask : am_mok 257 := ⟨tb_8 (n := 102) rfl rfl, tb_1 (n := 15) rfl rfl, (fun h => absurd h (by decide)), (fun _ => ⟨tb_8 (n := 100) rfl rfl, tb_8 (n := 101) rfl rfl⟩)⟩
set_option maxRecDepth 20000 in
theorem mk_X9_isBox : am_mok 258 := ⟨tb_8 (n := 114) rfl rfl, tb_1 (n := 15) rfl rfl, (fun _ => tb_8 (n := 113) rfl rfl), (fun h => absurd h (by decide))⟩
set_option maxRecDepth 20000 in
theorem mk_X9_image : am_mok 259 := ⟨tb_8 (n := 111) rfl rfl, tb_1 (n := 15) rfl rfl, (fun h => absurd h (by decide)), (fun _ => ⟨tb_8 (n := 109) rfl rfl, tb_8 (n := 110) rfl rfl⟩)⟩
set_option maxRecDepth 20000 in
theorem mk_X9_back : am_mok 260 := ⟨tb_8 (n := 118) rfl rfl, tb_1 (n := 15) rfl rfl, (fun h => absurd h (by decide)), (fun _ => ⟨tb_8 (n := 116) rfl rfl, tb_8 (n := 117) rfl rfl⟩)⟩
set_option maxRecDepth 20000 in
theorem mk_X9_about : am_mok 261 := ⟨tb_8 (n := 122) rfl rfl, tb_1 (n := 15) rfl rfl, (fun h => absurd h (by decide)), (fun _ => ⟨tb_8 (n := 120) rfl rfl, tb_8 (n := 121) rfl rfl⟩)⟩
set_option maxRecDepth 20000 in
theorem mk_J6_bitCount_0f7a4 : am_mok 262 := ⟨tb_5 (n := 5) rfl rfl, tb_1 (n := 18) rfl rfl, (fun _ => tb_5 (n := 4) rfl rfl), (fun h => absurd h (by decide))⟩
theorem am_mre_0 : (List.range 44).all (fun i => am_mrest (0 + i)) = true := by decide +kernel
theorem am_mre_1 : (List.range 44).all (fun i => am_mrest (44 + i)) = true := by decide +kernel
theorem am_mre_2 : (List.range 44).all (fun i => am_mrest (88 + i)) = true := by decide +kernel
theorem am_mre_3 : (List.range 44).all (fun i => am_mrest (132 + i)) = true := by decide +kernel
theorem am_mre_4 : (List.range 44).all (fun i => am_mrest (176 + i)) = true := by decide +kernel
theorem am_mre_5 : (List.range 43).all (fun i => am_mrest (220 + i)) = true := by decide +kernel
theorem am_mre {m : Nat} (h : m < 263) : am_mrest m = true := by
  by_cases h0 : m < 44
  · have := List.all_eq_true.mp am_mre_0 (m - 0) (List.mem_range.mpr (by omega))
    rwa [show 0 + (m - 0) = m by omega] at this
  by_cases h1 : m < 88
  · have := List.all_eq_true.mp am_mre_1 (m - 44) (List.mem_range.mpr (by omega))
    rwa [show 44 + (m - 44) = m by omega] at this
  by_cases h2 : m < 132
  · have := List.all_eq_true.mp am_mre_2 (m - 88) (List.mem_range.mpr (by omega))
    rwa [show 88 + (m - 88) = m by omega] at this
  by_cases h3 : m < 176
  · have := List.all_eq_true.mp am_mre_3 (m - 132) (List.mem_range.mpr (by omega))
    rwa [show 132 + (m - 132) = m by omega] at this
  by_cases h4 : m < 220
  · have := List.all_eq_true.mp am_mre_4 (m - 176) (List.mem_range.mpr (by omega))
    rwa [show 176 + (m - 176) = m by omega] at this
  by_cases h5 : m < 263
  · have := List.all_eq_true.mp am_mre_5 (m - 220) (List.mem_range.mpr (by omega))
    rwa [show 220 + (m - 220) = m by omega] at this
  · omega
theorem am_mo {m : Nat} (h : m < 263) : am_mok m := by
  by_cases h131 : m < 131
  · by_cases h65 : m < 65
    · by_cases h32 : m < 32
      · by_cases h16 : m < 16
        · by_cases h8 : m < 8
          · by_cases h4 : m < 4
            · by_cases h2 : m < 2
              · by_cases h1 : m < 1
                · obtain rfl : m = 0 := by omega
                  exact mk_X0_clear
                · obtain rfl : m = 1 := by omega
                  exact mk_X0_add
              · by_cases h3 : m < 3
                · obtain rfl : m = 2 := by omega
                  exact mk_X0_gain
                · obtain rfl : m = 3 := by omega
                  exact mk_X0_isUnit
            · by_cases h6 : m < 6
              · by_cases h5 : m < 5
                · obtain rfl : m = 4 := by omega
                  exact mk_X0_valueOf
                · obtain rfl : m = 5 := by omega
                  exact mk_X0_joined
              · by_cases h7 : m < 7
                · obtain rfl : m = 6 := by omega
                  exact mk_X1_rowNow
                · obtain rfl : m = 7 := by omega
                  exact mk_X1_clear
          · by_cases h12 : m < 12
            · by_cases h10 : m < 10
              · by_cases h9 : m < 9
                · obtain rfl : m = 8 := by omega
                  exact mk_X1_keep
                · obtain rfl : m = 9 := by omega
                  exact mk_X1_stepsBack
              · by_cases h11 : m < 11
                · obtain rfl : m = 10 := by omega
                  exact mk_X1_stepsOn
                · obtain rfl : m = 11 := by omega
                  exact mk_X2_begin
            · by_cases h14 : m < 14
              · by_cases h13 : m < 13
                · obtain rfl : m = 12 := by omega
                  exact mk_X2_drawnOrder
                · obtain rfl : m = 13 := by omega
                  exact mk_X2_copy
              · by_cases h15 : m < 15
                · obtain rfl : m = 14 := by omega
                  exact mk_X2_levelOf
                · obtain rfl : m = 15 := by omega
                  exact mk_X2_isOpened
        · by_cases h24 : m < 24
          · by_cases h20 : m < 20
            · by_cases h18 : m < 18
              · by_cases h17 : m < 17
                · obtain rfl : m = 16 := by omega
                  exact mk_X2_unopened
                · obtain rfl : m = 17 := by omega
                  exact mk_X2_canDo
              · by_cases h19 : m < 19
                · obtain rfl : m = 18 := by omega
                  exact mk_X2_ordersFor
                · obtain rfl : m = 19 := by omega
                  exact mk_X2_countOf
            · by_cases h22 : m < 22
              · by_cases h21 : m < 21
                · obtain rfl : m = 20 := by omega
                  exact mk_X2_doneOrders
                · obtain rfl : m = 21 := by omega
                  exact mk_X2_wouldDo
              · by_cases h23 : m < 23
                · obtain rfl : m = 22 := by omega
                  exact mk_X2_openLetter
                · obtain rfl : m = 23 := by omega
                  exact mk_X2_passYear
          · by_cases h28 : m < 28
            · by_cases h26 : m < 26
              · by_cases h25 : m < 25
                · obtain rfl : m = 24 := by omega
                  exact mk_X2_learn
                · obtain rfl : m = 25 := by omega
                  exact mk_X2_levelNext
              · by_cases h27 : m < 27
                · obtain rfl : m = 26 := by omega
                  exact mk_X2_levelBehind
                · obtain rfl : m = 27 := by omega
                  exact mk_X2_yearsTillOpened
            · by_cases h30 : m < 30
              · by_cases h29 : m < 29
                · obtain rfl : m = 28 := by omega
                  exact mk_X2_yearsTillReady
                · obtain rfl : m = 29 := by omega
                  exact mk_X2_worthOf
              · by_cases h31 : m < 31
                · obtain rfl : m = 30 := by omega
                  exact mk_X3_look
                · obtain rfl : m = 31 := by omega
                  exact mk_X3_knowsIt
      · by_cases h48 : m < 48
        · by_cases h40 : m < 40
          · by_cases h36 : m < 36
            · by_cases h34 : m < 34
              · by_cases h33 : m < 33
                · obtain rfl : m = 32 := by omega
                  exact mk_X3_knownOrder
                · obtain rfl : m = 33 := by omega
                  exact mk_X3_canThen
              · by_cases h35 : m < 35
                · obtain rfl : m = 34 := by omega
                  exact mk_X3_wholes
                · obtain rfl : m = 35 := by omega
                  exact mk_X3_parts
            · by_cases h38 : m < 38
              · by_cases h37 : m < 37
                · obtain rfl : m = 36 := by omega
                  exact mk_X3_worths
                · obtain rfl : m = 37 := by omega
                  exact mk_X3_spreadsBest
              · by_cases h39 : m < 39
                · obtain rfl : m = 38 := by omega
                  exact mk_X3_fillsYears
                · obtain rfl : m = 39 := by omega
                  exact mk_X3_liveSpread
          · by_cases h44 : m < 44
            · by_cases h42 : m < 42
              · by_cases h41 : m < 41
                · obtain rfl : m = 40 := by omega
                  exact mk_X4_readsTown
                · obtain rfl : m = 41 := by omega
                  exact mk_X4_readsLine
              · by_cases h43 : m < 43
                · obtain rfl : m = 42 := by omega
                  exact mk_X4_readsNamed
                · obtain rfl : m = 43 := by omega
                  exact mk_X4_readsOrder
            · by_cases h46 : m < 46
              · by_cases h45 : m < 45
                · obtain rfl : m = 44 := by omega
                  exact mk_X4_readsTrait
                · obtain rfl : m = 45 := by omega
                  exact mk_X4_readsOdds
              · by_cases h47 : m < 47
                · obtain rfl : m = 46 := by omega
                  exact mk_X4_readsPerson
                · obtain rfl : m = 47 := by omega
                  exact mk_X4_readsLevels
        · by_cases h56 : m < 56
          · by_cases h52 : m < 52
            · by_cases h50 : m < 50
              · by_cases h49 : m < 49
                · obtain rfl : m = 48 := by omega
                  exact mk_X4_readsUndoes
                · obtain rfl : m = 49 := by omega
                  exact mk_X4_readsOpen
              · by_cases h51 : m < 51
                · obtain rfl : m = 50 := by omega
                  exact mk_X4_readsDraw
                · obtain rfl : m = 51 := by omega
                  exact mk_X4_takesOnce
            · by_cases h54 : m < 54
              · by_cases h53 : m < 53
                · obtain rfl : m = 52 := by omega
                  exact mk_X4_either
                · obtain rfl : m = 53 := by omega
                  exact mk_X4_both
              · by_cases h55 : m < 55
                · obtain rfl : m = 54 := by omega
                  exact mk_X4_one
                · obtain rfl : m = 55 := by omega
                  exact mk_X4_related
          · by_cases h60 : m < 60
            · by_cases h58 : m < 58
              · by_cases h57 : m < 57
                · obtain rfl : m = 56 := by omega
                  exact mk_X4_sum
                · obtain rfl : m = 57 := by omega
                  exact mk_X4_term
              · by_cases h59 : m < 59
                · obtain rfl : m = 58 := by omega
                  exact mk_X4_unit
                · obtain rfl : m = 59 := by omega
                  exact mk_X4_take
            · by_cases h62 : m < 62
              · by_cases h61 : m < 61
                · obtain rfl : m = 60 := by omega
                  exact mk_X4_known
                · obtain rfl : m = 61 := by omega
                  exact mk_X4_find
              · by_cases h63 : m < 63
                · obtain rfl : m = 62 := by omega
                  exact mk_X4_numberWithin
                · by_cases h64 : m < 64
                  · obtain rfl : m = 63 := by omega
                    exact mk_X4_misplaced
                  · obtain rfl : m = 64 := by omega
                    exact mk_X4_refuse
    · by_cases h98 : m < 98
      · by_cases h81 : m < 81
        · by_cases h73 : m < 73
          · by_cases h69 : m < 69
            · by_cases h67 : m < 67
              · by_cases h66 : m < 66
                · obtain rfl : m = 65 := by omega
                  exact mk_X4_next
                · obtain rfl : m = 66 := by omega
                  exact mk_X4_scanWord
              · by_cases h68 : m < 68
                · obtain rfl : m = 67 := by omega
                  exact mk_X4_scanNumber
                · obtain rfl : m = 68 := by omega
                  exact mk_X4_behind
            · by_cases h71 : m < 71
              · by_cases h70 : m < 70
                · obtain rfl : m = 69 := by omega
                  exact mk_X4_isLetter
                · obtain rfl : m = 70 := by omega
                  exact mk_X4_isDigit
              · by_cases h72 : m < 72
                · obtain rfl : m = 71 := by omega
                  exact mk_X5_begin
                · obtain rfl : m = 72 := by omega
                  exact mk_X5_count
          · by_cases h77 : m < 77
            · by_cases h75 : m < 75
              · by_cases h74 : m < 74
                · obtain rfl : m = 73 := by omega
                  exact mk_X5_turnTo
                · obtain rfl : m = 74 := by omega
                  exact mk_X5_memberLeft
              · by_cases h76 : m < 76
                · obtain rfl : m = 75 := by omega
                  exact mk_X5_bestRings
                · obtain rfl : m = 76 := by omega
                  exact mk_X5_worthTogether
            · by_cases h79 : m < 79
              · by_cases h78 : m < 78
                · obtain rfl : m = 77 := by omega
                  exact mk_X5_keepRings
                · obtain rfl : m = 78 := by omega
                  exact mk_X5_bestOpening
              · by_cases h80 : m < 80
                · obtain rfl : m = 79 := by omega
                  exact mk_X5_doneInTurn
                · obtain rfl : m = 80 := by omega
                  exact mk_X6_tell
        · by_cases h89 : m < 89
          · by_cases h85 : m < 85
            · by_cases h83 : m < 83
              · by_cases h82 : m < 82
                · obtain rfl : m = 81 := by omega
                  exact mk_X6_takesBack
                · obtain rfl : m = 82 := by omega
                  exact mk_X6_counts
              · by_cases h84 : m < 84
                · obtain rfl : m = 83 := by omega
                  exact mk_X6_fitting
                · obtain rfl : m = 84 := by omega
                  exact mk_X6_fits
            · by_cases h87 : m < 87
              · by_cases h86 : m < 86
                · obtain rfl : m = 85 := by omega
                  exact mk_X6_seen
                · obtain rfl : m = 86 := by omega
                  exact mk_X6_mostLeft
              · by_cases h88 : m < 88
                · obtain rfl : m = 87 := by omega
                  exact mk_X7_clear
                · obtain rfl : m = 88 := by omega
                  exact mk_X7_has
          · by_cases h93 : m < 93
            · by_cases h91 : m < 91
              · by_cases h90 : m < 90
                · obtain rfl : m = 89 := by omega
                  exact mk_X7_sharesOf
                · obtain rfl : m = 90 := by omega
                  exact mk_X7_allShares
              · by_cases h92 : m < 92
                · obtain rfl : m = 91 := by omega
                  exact mk_X8_feed
                · obtain rfl : m = 92 := by omega
                  exact mk_X8_putBytes
            · by_cases h95 : m < 95
              · by_cases h94 : m < 94
                · obtain rfl : m = 93 := by omega
                  exact mk_X8_end
                · obtain rfl : m = 94 := by omega
                  exact mk_X8_town
              · by_cases h96 : m < 96
                · obtain rfl : m = 95 := by omega
                  exact mk_X8_fault
                · by_cases h97 : m < 97
                  · obtain rfl : m = 96 := by omega
                    exact mk_X8_chosen
                  · obtain rfl : m = 97 := by omega
                    exact mk_X8_person
      · by_cases h114 : m < 114
        · by_cases h106 : m < 106
          · by_cases h102 : m < 102
            · by_cases h100 : m < 100
              · by_cases h99 : m < 99
                · obtain rfl : m = 98 := by omega
                  exact mk_X8_level
                · obtain rfl : m = 99 := by omega
                  exact mk_X8_order
              · by_cases h101 : m < 101
                · obtain rfl : m = 100 := by omega
                  exact mk_X8_share
                · obtain rfl : m = 101 := by omega
                  exact mk_X8_many
            · by_cases h104 : m < 104
              · by_cases h103 : m < 103
                · obtain rfl : m = 102 := by omega
                  exact mk_X8_done
                · obtain rfl : m = 103 := by omega
                  exact mk_X8_isUnopened
              · by_cases h105 : m < 105
                · obtain rfl : m = 104 := by omega
                  exact mk_X8_keepAct
                · obtain rfl : m = 105 := by omega
                  exact mk_X8_prepare
          · by_cases h110 : m < 110
            · by_cases h108 : m < 108
              · by_cases h107 : m < 107
                · obtain rfl : m = 106 := by omega
                  exact mk_X8_steam
                · obtain rfl : m = 107 := by omega
                  exact mk_X8_swap
              · by_cases h109 : m < 109
                · obtain rfl : m = 108 := by omega
                  exact mk_X8_forge
                · obtain rfl : m = 109 := by omega
                  exact mk_X8_opens
            · by_cases h112 : m < 112
              · by_cases h111 : m < 111
                · obtain rfl : m = 110 := by omega
                  exact mk_X8_year
                · obtain rfl : m = 111 := by omega
                  exact mk_X8_undo
              · by_cases h113 : m < 113
                · obtain rfl : m = 112 := by omega
                  exact mk_X8_redo
                · obtain rfl : m = 113 := by omega
                  exact mk_X8_odds
        · by_cases h122 : m < 122
          · by_cases h118 : m < 118
            · by_cases h116 : m < 116
              · by_cases h115 : m < 115
                · obtain rfl : m = 114 := by omega
                  exact mk_X8_hope
                · obtain rfl : m = 115 := by omega
                  exact mk_X8_partOfLowestTerms
              · by_cases h117 : m < 117
                · obtain rfl : m = 116 := by omega
                  exact mk_X8_greatestDivisor
                · obtain rfl : m = 117 := by omega
                  exact mk_X8_life
            · by_cases h120 : m < 120
              · by_cases h119 : m < 119
                · obtain rfl : m = 118 := by omega
                  exact mk_X8_lay
                · obtain rfl : m = 119 := by omega
                  exact mk_X8_able
              · by_cases h121 : m < 121
                · obtain rfl : m = 120 := by omega
                  exact mk_X8_ready
                · obtain rfl : m = 121 := by omega
                  exact mk_X8_lost
          · by_cases h126 : m < 126
            · by_cases h124 : m < 124
              · by_cases h123 : m < 123
                · obtain rfl : m = 122 := by omega
                  exact mk_X8_will
                · obtain rfl : m = 123 := by omega
                  exact mk_X8_first
              · by_cases h125 : m < 125
                · obtain rfl : m = 124 := by omega
                  exact mk_X8_firstNewFailure
                · obtain rfl : m = 125 := by omega
                  exact mk_X8_rings
            · by_cases h128 : m < 128
              · by_cases h127 : m < 127
                · obtain rfl : m = 126 := by omega
                  exact mk_X8_opening
                · obtain rfl : m = 127 := by omega
                  exact mk_X8_law
              · by_cases h129 : m < 129
                · obtain rfl : m = 128 := by omega
                  exact mk_X8_doneAtLast
                · by_cases h130 : m < 130
                  · obtain rfl : m = 129 := by omega
                    exact mk_X8_lies
                  · obtain rfl : m = 130 := by omega
                    exact mk_X8_sign
  · by_cases h197 : m < 197
    · by_cases h164 : m < 164
      · by_cases h147 : m < 147
        · by_cases h139 : m < 139
          · by_cases h135 : m < 135
            · by_cases h133 : m < 133
              · by_cases h132 : m < 132
                · obtain rfl : m = 131 := by omega
                  exact mk_X8_untell
                · obtain rfl : m = 132 := by omega
                  exact mk_X8_later
              · by_cases h134 : m < 134
                · obtain rfl : m = 133 := by omega
                  exact mk_X8_meant
                · obtain rfl : m = 134 := by omega
                  exact mk_X8_likely
            · by_cases h137 : m < 137
              · by_cases h136 : m < 136
                · obtain rfl : m = 135 := by omega
                  exact mk_X8_ask
                · obtain rfl : m = 136 := by omega
                  exact mk_X8_image
              · by_cases h138 : m < 138
                · obtain rfl : m = 137 := by omega
                  exact mk_X8_back
                · obtain rfl : m = 138 := by omega
                  exact mk_X8_about
          · by_cases h143 : m < 143
            · by_cases h141 : m < 141
              · by_cases h140 : m < 140
                · obtain rfl : m = 139 := by omega
                  exact mk_X9_feed
                · obtain rfl : m = 140 := by omega
                  exact mk_X9_four
              · by_cases h142 : m < 142
                · obtain rfl : m = 141 := by omega
                  exact mk_X9_end
                · obtain rfl : m = 142 := by omega
                  exact mk_X9_here
            · by_cases h145 : m < 145
              · by_cases h144 : m < 144
                · obtain rfl : m = 143 := by omega
                  exact mk_X9_isLetter
                · obtain rfl : m = 144 := by omega
                  exact mk_X9_isDigit
              · by_cases h146 : m < 146
                · obtain rfl : m = 145 := by omega
                  exact mk_X9_isSign
                · obtain rfl : m = 146 := by omega
                  exact mk_X9_token
        · by_cases h155 : m < 155
          · by_cases h151 : m < 151
            · by_cases h149 : m < 149
              · by_cases h148 : m < 148
                · obtain rfl : m = 147 := by omega
                  exact mk_X9_wrong
                · obtain rfl : m = 148 := by omega
                  exact mk_X9_isWord
              · by_cases h150 : m < 150
                · obtain rfl : m = 149 := by omega
                  exact mk_X9_isOwn
                · obtain rfl : m = 150 := by omega
                  exact mk_X9_isName
            · by_cases h153 : m < 153
              · by_cases h152 : m < 152
                · obtain rfl : m = 151 := by omega
                  exact mk_X9_want
                · obtain rfl : m = 152 := by omega
                  exact mk_X9_toldNumber
              · by_cases h154 : m < 154
                · obtain rfl : m = 153 := by omega
                  exact mk_X9_told
                · obtain rfl : m = 154 := by omega
                  exact mk_X9_option
          · by_cases h159 : m < 159
            · by_cases h157 : m < 157
              · by_cases h156 : m < 156
                · obtain rfl : m = 155 := by omega
                  exact mk_X9_find
                · obtain rfl : m = 156 := by omega
                  exact mk_X9_newName
              · by_cases h158 : m < 158
                · obtain rfl : m = 157 := by omega
                  exact mk_X9_oldName
                · obtain rfl : m = 158 := by omega
                  exact mk_X9_add
            · by_cases h161 : m < 161
              · by_cases h160 : m < 160
                · obtain rfl : m = 159 := by omega
                  exact mk_X9_tight
                · obtain rfl : m = 160 := by omega
                  exact mk_X9_close
              · by_cases h162 : m < 162
                · obtain rfl : m = 161 := by omega
                  exact mk_X9_hasRelation
                · by_cases h163 : m < 163
                  · obtain rfl : m = 162 := by omega
                    exact mk_X9_mayNot
                  · obtain rfl : m = 163 := by omega
                    exact mk_X9_asked
      · by_cases h180 : m < 180
        · by_cases h172 : m < 172
          · by_cases h168 : m < 168
            · by_cases h166 : m < 166
              · by_cases h165 : m < 165
                · obtain rfl : m = 164 := by omega
                  exact mk_X9_isFull
                · obtain rfl : m = 165 := by omega
                  exact mk_X9_countUnit
              · by_cases h167 : m < 167
                · obtain rfl : m = 166 := by omega
                  exact mk_X9_openUp
                · obtain rfl : m = 167 := by omega
                  exact mk_X9_unit
            · by_cases h170 : m < 170
              · by_cases h169 : m < 169
                · obtain rfl : m = 168 := by omega
                  exact mk_X9_signHere
                · obtain rfl : m = 169 := by omega
                  exact mk_X9_hasBracket
              · by_cases h171 : m < 171
                · obtain rfl : m = 170 := by omega
                  exact mk_X9_readTeach
                · obtain rfl : m = 171 := by omega
                  exact mk_X9_truth
          · by_cases h176 : m < 176
            · by_cases h174 : m < 174
              · by_cases h173 : m < 173
                · obtain rfl : m = 172 := by omega
                  exact mk_X9_worked
                · obtain rfl : m = 173 := by omega
                  exact mk_X9_taught
              · by_cases h175 : m < 175
                · obtain rfl : m = 174 := by omega
                  exact mk_X9_readSkill
                · obtain rfl : m = 175 := by omega
                  exact mk_X9_readOrder
            · by_cases h178 : m < 178
              · by_cases h177 : m < 177
                · obtain rfl : m = 176 := by omega
                  exact mk_X9_readParish
                · obtain rfl : m = 177 := by omega
                  exact mk_X9_readOdds
              · by_cases h179 : m < 179
                · obtain rfl : m = 178 := by omega
                  exact mk_X9_readPerson
                · obtain rfl : m = 179 := by omega
                  exact mk_X9_readUndoes
        · by_cases h188 : m < 188
          · by_cases h184 : m < 184
            · by_cases h182 : m < 182
              · by_cases h181 : m < 181
                · obtain rfl : m = 180 := by omega
                  exact mk_X9_readLine
                · obtain rfl : m = 181 := by omega
                  exact mk_X9_readAll
              · by_cases h183 : m < 183
                · obtain rfl : m = 182 := by omega
                  exact mk_X9_town
                · obtain rfl : m = 183 := by omega
                  exact mk_X9_layTown
            · by_cases h186 : m < 186
              · by_cases h185 : m < 185
                · obtain rfl : m = 184 := by omega
                  exact mk_X9_allOdds
                · obtain rfl : m = 185 := by omega
                  exact mk_X9_drawOf
              · by_cases h187 : m < 187
                · obtain rfl : m = 186 := by omega
                  exact mk_X9_fault
                · obtain rfl : m = 187 := by omega
                  exact mk_X9_isIn
          · by_cases h192 : m < 192
            · by_cases h190 : m < 190
              · by_cases h189 : m < 189
                · obtain rfl : m = 188 := by omega
                  exact mk_X9_isPerson
                · obtain rfl : m = 189 := by omega
                  exact mk_X9_isSkill
              · by_cases h191 : m < 191
                · obtain rfl : m = 190 := by omega
                  exact mk_X9_isOrder
                · obtain rfl : m = 191 := by omega
                  exact mk_X9_load
            · by_cases h194 : m < 194
              · by_cases h193 : m < 193
                · obtain rfl : m = 192 := by omega
                  exact mk_X9_isShut
                · obtain rfl : m = 193 := by omega
                  exact mk_X9_levelOf
              · by_cases h195 : m < 195
                · obtain rfl : m = 194 := by omega
                  exact mk_X9_can
                · by_cases h196 : m < 196
                  · obtain rfl : m = 195 := by omega
                    exact mk_X9_isUndone
                  · obtain rfl : m = 196 := by omega
                    exact mk_X9_openOf
    · by_cases h230 : m < 230
      · by_cases h213 : m < 213
        · by_cases h205 : m < 205
          · by_cases h201 : m < 201
            · by_cases h199 : m < 199
              · by_cases h198 : m < 198
                · obtain rfl : m = 197 := by omega
                  exact mk_X9_learn
                · obtain rfl : m = 198 := by omega
                  exact mk_X9_goYear
              · by_cases h200 : m < 200
                · obtain rfl : m = 199 := by omega
                  exact mk_X9_canSet
                · obtain rfl : m = 200 := by omega
                  exact mk_X9_person
            · by_cases h203 : m < 203
              · by_cases h202 : m < 202
                · obtain rfl : m = 201 := by omega
                  exact mk_X9_level
                · obtain rfl : m = 202 := by omega
                  exact mk_X9_order
              · by_cases h204 : m < 204
                · obtain rfl : m = 203 := by omega
                  exact mk_X9_share
                · obtain rfl : m = 204 := by omega
                  exact mk_X9_manyOf
          · by_cases h209 : m < 209
            · by_cases h207 : m < 207
              · by_cases h206 : m < 206
                · obtain rfl : m = 205 := by omega
                  exact mk_X9_many
                · obtain rfl : m = 206 := by omega
                  exact mk_X9_done
              · by_cases h208 : m < 208
                · obtain rfl : m = 207 := by omega
                  exact mk_X9_act
                · obtain rfl : m = 208 := by omega
                  exact mk_X9_exchange
            · by_cases h211 : m < 211
              · by_cases h210 : m < 210
                · obtain rfl : m = 209 := by omega
                  exact mk_X9_keep
                · obtain rfl : m = 210 := by omega
                  exact mk_X9_isShutNow
              · by_cases h212 : m < 212
                · obtain rfl : m = 211 := by omega
                  exact mk_X9_prepare
                · obtain rfl : m = 212 := by omega
                  exact mk_X9_steam
        · by_cases h221 : m < 221
          · by_cases h217 : m < 217
            · by_cases h215 : m < 215
              · by_cases h214 : m < 214
                · obtain rfl : m = 213 := by omega
                  exact mk_X9_swap
                · obtain rfl : m = 214 := by omega
                  exact mk_X9_forge
              · by_cases h216 : m < 216
                · obtain rfl : m = 215 := by omega
                  exact mk_X9_opens
                · obtain rfl : m = 216 := by omega
                  exact mk_X9_year
            · by_cases h219 : m < 219
              · by_cases h218 : m < 218
                · obtain rfl : m = 217 := by omega
                  exact mk_X9_undo
                · obtain rfl : m = 218 := by omega
                  exact mk_X9_redo
              · by_cases h220 : m < 220
                · obtain rfl : m = 219 := by omega
                  exact mk_X9_yearsLeft
                · obtain rfl : m = 220 := by omega
                  exact mk_X9_goAlone
          · by_cases h225 : m < 225
            · by_cases h223 : m < 223
              · by_cases h222 : m < 222
                · obtain rfl : m = 221 := by omega
                  exact mk_X9_isBlank
                · obtain rfl : m = 222 := by omega
                  exact mk_X9_partsAll
              · by_cases h224 : m < 224
                · obtain rfl : m = 223 := by omega
                  exact mk_X9_partsOf
                · obtain rfl : m = 224 := by omega
                  exact mk_X9_common
            · by_cases h227 : m < 227
              · by_cases h226 : m < 226
                · obtain rfl : m = 225 := by omega
                  exact mk_X9_odds
                · obtain rfl : m = 226 := by omega
                  exact mk_X9_worthsOf
              · by_cases h228 : m < 228
                · obtain rfl : m = 227 := by omega
                  exact mk_X9_hope
                · by_cases h229 : m < 229
                  · obtain rfl : m = 228 := by omega
                    exact mk_X9_able
                  · obtain rfl : m = 229 := by omega
                    exact mk_X9_ready
      · by_cases h246 : m < 246
        · by_cases h238 : m < 238
          · by_cases h234 : m < 234
            · by_cases h232 : m < 232
              · by_cases h231 : m < 231
                · obtain rfl : m = 230 := by omega
                  exact mk_X9_lost
                · obtain rfl : m = 231 := by omega
                  exact mk_X9_partsByShares
              · by_cases h233 : m < 233
                · obtain rfl : m = 232 := by omega
                  exact mk_X9_nextShare
                · obtain rfl : m = 233 := by omega
                  exact mk_X9_life
            · by_cases h236 : m < 236
              · by_cases h235 : m < 235
                · obtain rfl : m = 234 := by omega
                  exact mk_X9_will
                · obtain rfl : m = 235 := by omega
                  exact mk_X9_failedFirst
              · by_cases h237 : m < 237
                · obtain rfl : m = 236 := by omega
                  exact mk_X9_first
                · obtain rfl : m = 237 := by omega
                  exact mk_X9_hasOf
          · by_cases h242 : m < 242
            · by_cases h240 : m < 240
              · by_cases h239 : m < 239
                · obtain rfl : m = 238 := by omega
                  exact mk_X9_layFirst
                · obtain rfl : m = 239 := by omega
                  exact mk_X9_nextRow
              · by_cases h241 : m < 241
                · obtain rfl : m = 240 := by omega
                  exact mk_X9_exchangeRow
                · obtain rfl : m = 241 := by omega
                  exact mk_X9_shutSet
            · by_cases h244 : m < 244
              · by_cases h243 : m < 243
                · obtain rfl : m = 242 := by omega
                  exact mk_X9_ringWorth
                · obtain rfl : m = 243 := by omega
                  exact mk_X9_rings
              · by_cases h245 : m < 245
                · obtain rfl : m = 244 := by omega
                  exact mk_X9_doneBy
                · obtain rfl : m = 245 := by omega
                  exact mk_X9_opening
        · by_cases h254 : m < 254
          · by_cases h250 : m < 250
            · by_cases h248 : m < 248
              · by_cases h247 : m < 247
                · obtain rfl : m = 246 := by omega
                  exact mk_X9_doneIf
                · obtain rfl : m = 247 := by omega
                  exact mk_X9_law
              · by_cases h249 : m < 249
                · obtain rfl : m = 248 := by omega
                  exact mk_X9_lies
                · obtain rfl : m = 249 := by omega
                  exact mk_X9_sign
            · by_cases h252 : m < 252
              · by_cases h251 : m < 251
                · obtain rfl : m = 250 := by omega
                  exact mk_X9_untell
                · obtain rfl : m = 251 := by omega
                  exact mk_X9_later
              · by_cases h253 : m < 253
                · obtain rfl : m = 252 := by omega
                  exact mk_X9_markOf
                · obtain rfl : m = 253 := by omega
                  exact mk_X9_isMeant
          · by_cases h258 : m < 258
            · by_cases h256 : m < 256
              · by_cases h255 : m < 255
                · obtain rfl : m = 254 := by omega
                  exact mk_X9_meant
                · obtain rfl : m = 255 := by omega
                  exact mk_X9_likely
              · by_cases h257 : m < 257
                · obtain rfl : m = 256 := by omega
                  exact mk_X9_mostLeft
                · obtain rfl : m = 257 := by omega
                  exact mk_X9_ask
            · by_cases h260 : m < 260
              · by_cases h259 : m < 259
                · obtain rfl : m = 258 := by omega
                  exact mk_X9_isBox
                · obtain rfl : m = 259 := by omega
                  exact mk_X9_image
              · by_cases h261 : m < 261
                · obtain rfl : m = 260 := by omega
                  exact mk_X9_back
                · by_cases h262 : m < 262
                  · obtain rfl : m = 261 := by omega
                    exact mk_X9_about
                  · obtain rfl : m = 262 := by omega
                    exact mk_J6_bitCount_0f7a4
