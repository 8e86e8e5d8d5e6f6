set_option maxRecDepth 20000 in
theorem am_ws_0 : ∀ w ∈ u_ws RX0 TX0 5, w ∈ am_WL := by
  show ∀ w ∈ ([u_lay RX0 TX0 0, u_lay RX0 TX0 1, u_lay RX0 TX0 2, u_lay RX0 TX0 3, u_lay RX0 TX0 4] : List Jvm.Cond), _
  exact List.forall_mem_cons.mpr ⟨tb_1 (n := 50) rfl rfl, List.forall_mem_cons.mpr ⟨tb_1 (n := 52) rfl rfl, List.forall_mem_cons.mpr ⟨tb_1 (n := 54) rfl rfl, List.forall_mem_cons.mpr ⟨tb_1 (n := 56) rfl rfl, List.forall_mem_cons.mpr ⟨tb_1 (n := 58) rfl rfl, fun _ h => absurd h List.not_mem_nil⟩⟩⟩⟩⟩
set_option maxRecDepth 20000 in
theorem am_ws_1 : ∀ w ∈ u_ws RX1 TX1 4, w ∈ am_WL := by
  show ∀ w ∈ ([u_lay RX1 TX1 0, u_lay RX1 TX1 1, u_lay RX1 TX1 2, u_lay RX1 TX1 3] : List Jvm.Cond), _
  exact List.forall_mem_cons.mpr ⟨tb_2 (n := 24) rfl rfl, List.forall_mem_cons.mpr ⟨tb_2 (n := 26) rfl rfl, List.forall_mem_cons.mpr ⟨tb_2 (n := 28) rfl rfl, List.forall_mem_cons.mpr ⟨tb_2 (n := 30) rfl rfl, fun _ h => absurd h List.not_mem_nil⟩⟩⟩⟩
set_option maxRecDepth 20000 in
theorem am_ws_2 : ∀ w ∈ u_ws RX2 TX2 3, w ∈ am_WL := by
  show ∀ w ∈ ([u_lay RX2 TX2 0, u_lay RX2 TX2 1, u_lay RX2 TX2 2] : List Jvm.Cond), _
  exact List.forall_mem_cons.mpr ⟨tb_2 (n := 4) rfl rfl, List.forall_mem_cons.mpr ⟨tb_2 (n := 6) rfl rfl, List.forall_mem_cons.mpr ⟨tb_2 (n := 8) rfl rfl, fun _ h => absurd h List.not_mem_nil⟩⟩⟩
set_option maxRecDepth 20000 in
theorem am_ws_3 : ∀ w ∈ u_ws RX3 TX3 6, w ∈ am_WL := by
  show ∀ w ∈ ([u_lay RX3 TX3 0, u_lay RX3 TX3 1, u_lay RX3 TX3 2, u_lay RX3 TX3 3, u_lay RX3 TX3 4, u_lay RX3 TX3 5] : List Jvm.Cond), _
  exact List.forall_mem_cons.mpr ⟨tb_2 (n := 47) rfl rfl, List.forall_mem_cons.mpr ⟨tb_2 (n := 49) rfl rfl, List.forall_mem_cons.mpr ⟨tb_2 (n := 51) rfl rfl, List.forall_mem_cons.mpr ⟨tb_2 (n := 53) rfl rfl, List.forall_mem_cons.mpr ⟨tb_2 (n := 55) rfl rfl, List.forall_mem_cons.mpr ⟨tb_2 (n := 57) rfl rfl, fun _ h => absurd h List.not_mem_nil⟩⟩⟩⟩⟩⟩
set_option maxRecDepth 20000 in
theorem am_ws_4 : ∀ w ∈ u_ws RX4 TX4 12, w ∈ am_WL := by
  show ∀ w ∈ ([u_lay RX4 TX4 0, u_lay RX4 TX4 1, u_lay RX4 TX4 2, u_lay RX4 TX4 3, u_lay RX4 TX4 4, u_lay RX4 TX4 5, u_lay RX4 TX4 6, u_lay RX4 TX4 7, u_lay RX4 TX4 8, u_lay RX4 TX4 9, u_lay RX4 TX4 10, u_lay RX4 TX4 11] : List Jvm.Cond), _
  exact List.forall_mem_cons.mpr ⟨tb_1 (n := 204) rfl rfl, List.forall_mem_cons.mpr ⟨tb_1 (n := 206) rfl rfl, List.forall_mem_cons.mpr ⟨tb_1 (n := 208) rfl rfl, List.forall_mem_cons.mpr ⟨tb_1 (n := 210) rfl rfl, List.forall_mem_cons.mpr ⟨tb_1 (n := 212) rfl rfl, List.forall_mem_cons.mpr ⟨tb_1 (n := 214) rfl rfl, List.forall_mem_cons.mpr ⟨tb_1 (n := 216) rfl rfl, List.forall_mem_cons.mpr ⟨tb_1 (n := 218) rfl rfl, List.forall_mem_cons.mpr ⟨tb_1 (n := 220) rfl rfl, List.forall_mem_cons.mpr ⟨tb_1 (n := 222) rfl rfl, List.forall_mem_cons.mpr ⟨tb_1 (n := 224) rfl rfl, List.forall_mem_cons.mpr ⟨tb_1 (n := 226) rfl rfl, fun _ h => absurd h List.not_mem_nil⟩⟩⟩⟩⟩⟩⟩⟩⟩⟩⟩⟩
set_option maxRecDepth 20000 in
theorem am_ws_5 : ∀ w ∈ u_ws RX5 TX5 5, w ∈ am_WL := by
  show ∀ w ∈ ([u_lay RX5 TX5 0, u_lay RX5 TX5 1, u_lay RX5 TX5 2, u_lay RX5 TX5 3, u_lay RX5 TX5 4] : List Jvm.Cond), _
  exact List.forall_mem_cons.mpr ⟨tb_2 (n := 72) rfl rfl, List.forall_mem_cons.mpr ⟨tb_2 (n := 74) rfl rfl, List.forall_mem_cons.mpr ⟨tb_2 (n := 76) rfl rfl, List.forall_mem_cons.mpr ⟨tb_2 (n := 78) rfl rfl, List.forall_mem_cons.mpr ⟨tb_2 (n := 80) rfl rfl, fun _ h => absurd h List.not_mem_nil⟩⟩⟩⟩⟩
set_option maxRecDepth 20000 in
theorem am_ws_6 : ∀ w ∈ u_ws RX6 TX6 7, w ∈ am_WL := by
  show ∀ w ∈ ([u_lay RX6 TX6 0, u_lay RX6 TX6 1, u_lay RX6 TX6 2, u_lay RX6 TX6 3, u_lay RX6 TX6 4, u_lay RX6 TX6 5, u_lay RX6 TX6 6] : List Jvm.Cond), _
  exact List.forall_mem_cons.mpr ⟨tb_2 (n := 97) rfl rfl, List.forall_mem_cons.mpr ⟨tb_2 (n := 99) rfl rfl, List.forall_mem_cons.mpr ⟨tb_2 (n := 101) rfl rfl, List.forall_mem_cons.mpr ⟨tb_2 (n := 103) rfl rfl, List.forall_mem_cons.mpr ⟨tb_2 (n := 105) rfl rfl, List.forall_mem_cons.mpr ⟨tb_2 (n := 107) rfl rfl, List.forall_mem_cons.mpr ⟨tb_2 (n := 109) rfl rfl, fun _ h => absurd h List.not_mem_nil⟩⟩⟩⟩⟩⟩⟩
set_option maxRecDepth 20000 in
theorem am_ws_7 : ∀ w ∈ u_ws RX7 TX7 12, w ∈ am_WL := by
  show ∀ w ∈ ([u_lay RX7 TX7 0, u_lay RX7 TX7 1, u_lay RX7 TX7 2, u_lay RX7 TX7 3, u_lay RX7 TX7 4, u_lay RX7 TX7 5, u_lay RX7 TX7 6, u_lay RX7 TX7 7, u_lay RX7 TX7 8, u_lay RX7 TX7 9, u_lay RX7 TX7 10, u_lay RX7 TX7 11] : List Jvm.Cond), _
  exact List.forall_mem_cons.mpr ⟨tb_1 (n := 107) rfl rfl, List.forall_mem_cons.mpr ⟨tb_1 (n := 109) rfl rfl, List.forall_mem_cons.mpr ⟨tb_1 (n := 111) rfl rfl, List.forall_mem_cons.mpr ⟨tb_1 (n := 113) rfl rfl, List.forall_mem_cons.mpr ⟨tb_1 (n := 115) rfl rfl, List.forall_mem_cons.mpr ⟨tb_1 (n := 117) rfl rfl, List.forall_mem_cons.mpr ⟨tb_1 (n := 119) rfl rfl, List.forall_mem_cons.mpr ⟨tb_1 (n := 121) rfl rfl, List.forall_mem_cons.mpr ⟨tb_1 (n := 123) rfl rfl, List.forall_mem_cons.mpr ⟨tb_1 (n := 125) rfl rfl, List.forall_mem_cons.mpr ⟨tb_1 (n := 127) rfl rfl, List.forall_mem_cons.mpr ⟨tb_1 (n := 129) rfl rfl, fun _ h => absurd h List.not_mem_nil⟩⟩⟩⟩⟩⟩⟩⟩⟩⟩⟩⟩
set_option maxRecDepth 20000 in
theorem am_ws_8 : ∀ w ∈ u_ws RX8 TX8 15, w ∈ am_WL := by
  show ∀ w ∈ ([u_lay RX8 TX8 0, u_lay RX8 TX8 1, u_lay RX8 TX8 2, u_lay RX8 TX8 3, u_lay RX8 TX8 4, u_lay RX8 TX8 5, u_lay RX8 TX8 6, u_lay RX8 TX8 7, u_lay RX8 TX8 8, u_lay RX8 TX8 9, u_lay RX8 TX8 10, u_lay RX8 TX8 11, u_lay RX8 TX8 12, u_lay RX8 TX8 13, u_lay RX8 TX8 14] : List Jvm.Cond), _
  exact List.forall_mem_cons.mpr ⟨tb_2 (n := 157) rfl rfl, List.forall_mem_cons.mpr ⟨tb_2 (n := 159) rfl rfl, List.forall_mem_cons.mpr ⟨tb_2 (n := 161) rfl rfl, List.forall_mem_cons.mpr ⟨tb_2 (n := 163) rfl rfl, List.forall_mem_cons.mpr ⟨tb_2 (n := 165) rfl rfl, List.forall_mem_cons.mpr ⟨tb_2 (n := 167) rfl rfl, List.forall_mem_cons.mpr ⟨tb_2 (n := 169) rfl rfl, List.forall_mem_cons.mpr ⟨tb_2 (n := 171) rfl rfl, List.forall_mem_cons.mpr ⟨tb_2 (n := 173) rfl rfl, List.forall_mem_cons.mpr ⟨tb_2 (n := 175) rfl rfl, List.forall_mem_cons.mpr ⟨tb_2 (n := 177) rfl rfl, List.forall_mem_cons.mpr ⟨tb_2 (n := 179) rfl rfl, List.forall_mem_cons.mpr ⟨tb_2 (n := 181) rfl rfl, List.forall_mem_cons.mpr ⟨tb_2 (n := 183) rfl rfl, List.forall_mem_cons.mpr ⟨tb_2 (n := 185) rfl rfl, fun _ h => absurd h List.not_mem_nil⟩⟩⟩⟩⟩⟩⟩⟩⟩⟩⟩⟩⟩⟩⟩
set_option maxRecDepth 20000 in
theorem am_ws_9 : ∀ w ∈ u_ws RX9 TX9 81, w ∈ am_WL := by
  show ∀ w ∈ ([u_lay RX9 TX9 0, u_lay RX9 TX9 1, u_lay RX9 TX9 2, u_lay RX9 TX9 3, u_lay RX9 TX9 4, u_lay RX9 TX9 5, u_lay RX9 TX9 6, u_lay RX9 TX9 7, u_lay RX9 TX9 8, u_lay RX9 TX9 9, u_lay RX9 TX9 10, u_lay RX9 TX9 11, u_lay RX9 TX9 12, u_lay RX9 TX9 13, u_lay RX9 TX9 14, u_lay RX9 TX9 15, u_lay RX9 TX9 16, u_lay RX9 TX9 17, u_lay RX9 TX9 18, u_lay RX9 TX9 19, u_lay RX9 TX9 20, u_lay RX9 TX9 21, u_lay RX9 TX9 22, u_lay RX9 TX9 23, u_lay RX9 TX9 24, u_lay RX9 TX9 25, u_lay RX9 TX9 26, u_lay RX9 TX9 27, u_lay RX9 TX9 28, u_lay RX9 TX9 29, u_lay RX9 TX9 30, u_lay RX9 TX9 31, u_lay RX9 TX9 32, u_lay RX9 TX9 33, u_lay RX9 TX9 34, u_lay RX9 TX9 35, u_lay RX9 TX9 36, u_lay RX9 TX9 37, u_lay RX9 TX9 38, u_lay RX9 TX9 39, u_lay RX9 TX9 40, u_lay RX9 TX9 41, u_lay RX9 TX9 42, u_lay RX9 TX9 43, u_lay RX9 TX9 44, u_lay RX9 TX9 45, u_lay RX9 TX9 46, u_lay RX9 TX9 47, u_lay RX9 TX9 48, u_lay RX9 TX9 49, u_lay RX9 TX9 50, u_lay RX9 TX9 51, u_lay RX9 TX9 52, u_lay RX9 TX9 53, u_lay RX9 TX9 54, u_lay RX9 TX9 55, u_lay RX9 TX9 56, u_lay RX9 TX9 57, u_lay RX9 TX9 58, u_lay RX9 TX9 59, u_lay RX9 TX9 60, u_lay RX9 TX9 61, u_lay RX9 TX9 62, u_lay RX9 TX9 63, u_lay RX9 TX9 64, u_lay RX9 TX9 65, u_lay RX9 TX9 66, u_lay RX9 TX9 67, u_lay RX9 TX9 68, u_lay RX9 TX9 69, u_lay RX9 TX9 70, u_lay RX9 TX9 71, u_lay RX9 TX9 72, u_lay RX9 TX9 73, u_lay RX9 TX9 74, u_lay RX9 TX9 75, u_lay RX9 TX9 76, u_lay RX9 TX9 77, u_lay RX9 TX9 78, u_lay RX9 TX9 79, u_lay RX9 TX9 80] : List Jvm.Cond), _
  exact List.forall_mem_cons.mpr ⟨tb_5 (n := 174) rfl rfl, List.forall_mem_cons.mpr ⟨tb_5 (n := 176) rfl rfl, List.forall_mem_cons.mpr ⟨tb_5 (n := 178) rfl rfl, List.forall_mem_cons.mpr ⟨tb_5 (n := 180) rfl rfl, List.forall_mem_cons.mpr ⟨tb_5 (n := 182) rfl rfl, List.forall_mem_cons.mpr ⟨tb_5 (n := 184) rfl rfl, List.forall_mem_cons.mpr ⟨tb_5 (n := 186) rfl rfl, List.forall_mem_cons.mpr ⟨tb_5 (n := 188) rfl rfl, List.forall_mem_cons.mpr ⟨tb_5 (n := 190) rfl rfl, List.forall_mem_cons.mpr ⟨tb_5 (n := 192) rfl rfl, List.forall_mem_cons.mpr ⟨tb_5 (n := 194) rfl rfl, List.forall_mem_cons.mpr ⟨tb_5 (n := 196) rfl rfl, List.forall_mem_cons.mpr ⟨tb_5 (n := 198) rfl rfl, List.forall_mem_cons.mpr ⟨tb_5 (n := 200) rfl rfl, List.forall_mem_cons.mpr ⟨tb_5 (n := 202) rfl rfl, List.forall_mem_cons.mpr ⟨tb_5 (n := 204) rfl rfl, List.forall_mem_cons.mpr ⟨tb_5 (n := 206) rfl rfl, List.forall_mem_cons.mpr ⟨tb_5 (n := 208) rfl rfl, List.forall_mem_cons.mpr ⟨tb_5 (n := 210) rfl rfl, List.forall_mem_cons.mpr ⟨tb_5 (n := 212) rfl rfl, List.forall_mem_cons.mpr ⟨tb_5 (n := 214) rfl rfl, List.forall_mem_cons.mpr ⟨tb_5 (n := 216) rfl rfl, List.forall_mem_cons.mpr ⟨tb_5 (n := 218) rfl rfl, List.forall_mem_cons.mpr ⟨tb_5 (n := 220) rfl rfl, List.forall_mem_cons.mpr ⟨tb_5 (n := 222) rfl rfl, List.forall_mem_cons.mpr ⟨tb_5 (n := 224) rfl rfl, List.forall_mem_cons.mpr ⟨tb_5 (n := 226) rfl rfl, List.forall_mem_cons.mpr ⟨tb_5 (n := 228) rfl rfl, List.forall_mem_cons.mpr ⟨tb_5 (n := 230) rfl rfl, List.forall_mem_cons.mpr ⟨tb_5 (n := 232) rfl rfl, List.forall_mem_cons.mpr ⟨tb_5 (n := 234) rfl rfl, List.forall_mem_cons.mpr ⟨tb_5 (n := 236) rfl rfl, List.forall_mem_cons.mpr ⟨tb_5 (n := 238) rfl rfl, List.forall_mem_cons.mpr ⟨tb_6 (n := 0) rfl rfl, List.forall_mem_cons.mpr ⟨tb_6 (n := 2) rfl rfl, List.forall_mem_cons.mpr ⟨tb_6 (n := 4) rfl rfl, List.forall_mem_cons.mpr ⟨tb_6 (n := 6) rfl rfl, List.forall_mem_cons.mpr ⟨tb_6 (n := 8) rfl rfl, List.forall_mem_cons.mpr ⟨tb_6 (n := 10) rfl rfl, List.forall_mem_cons.mpr ⟨tb_6 (n := 12) rfl rfl, List.forall_mem_cons.mpr ⟨tb_6 (n := 14) rfl rfl, List.forall_mem_cons.mpr ⟨tb_6 (n := 16) rfl rfl, List.forall_mem_cons.mpr ⟨tb_6 (n := 18) rfl rfl, List.forall_mem_cons.mpr ⟨tb_6 (n := 20) rfl rfl, List.forall_mem_cons.mpr ⟨tb_6 (n := 22) rfl rfl, List.forall_mem_cons.mpr ⟨tb_6 (n := 24) rfl rfl, List.forall_mem_cons.mpr ⟨tb_6 (n := 26) rfl rfl, List.forall_mem_cons.mpr ⟨tb_6 (n := 28) rfl rfl, List.forall_mem_cons.mpr ⟨tb_6 (n := 30) rfl rfl, List.forall_mem_cons.mpr ⟨tb_6 (n := 32) rfl rfl, List.forall_mem_cons.mpr ⟨tb_6 (n := 34) rfl rfl, List.forall_mem_cons.mpr ⟨tb_6 (n := 36) rfl rfl, List.forall_mem_cons.mpr ⟨tb_6 (n := 38) rfl rfl, List.forall_mem_cons.mpr ⟨tb_6 (n := 40) rfl rfl, List.forall_mem_cons.mpr ⟨tb_6 (n := 42) rfl rfl, List.forall_mem_cons.mpr ⟨tb_6 (n := 44) rfl rfl, List.forall_mem_cons.mpr ⟨tb_6 (n := 46) rfl rfl, List.forall_mem_cons.mpr ⟨tb_6 (n := 48) rfl rfl, List.forall_mem_cons.mpr ⟨tb_6 (n := 50) rfl rfl, List.forall_mem_cons.mpr ⟨tb_6 (n := 52) rfl rfl, List.forall_mem_cons.mpr ⟨tb_6 (n := 54) rfl rfl, List.forall_mem_cons.mpr ⟨tb_6 (n := 56) rfl rfl, List.forall_mem_cons.mpr ⟨tb_6 (n := 58) rfl rfl, List.forall_mem_cons.mpr ⟨tb_6 (n := 60) rfl rfl, List.forall_mem_cons.mpr ⟨tb_6 (n := 62) rfl rfl, List.forall_mem_cons.mpr ⟨tb_6 (n := 64) rfl rfl, List.forall_mem_cons.mpr ⟨tb_6 (n := 66) rfl rfl, List.forall_mem_cons.mpr ⟨tb_6 (n := 68) rfl rfl, List.forall_mem_cons.mpr ⟨tb_6 (n := 70) rfl rfl, List.forall_mem_cons.mpr ⟨tb_6 (n := 72) rfl rfl, List.forall_mem_cons.mpr ⟨tb_6 (n := 74) rfl rfl, List.forall_mem_cons.mpr ⟨tb_6 (n := 76) rfl rfl, List.forall_mem_cons.mpr ⟨tb_6 (n := 78) rfl rfl, List.forall_mem_cons.mpr ⟨tb_6 (n := 80) rfl rfl, List.forall_mem_cons.mpr ⟨tb_6 (n := 82) rfl rfl, List.forall_mem_cons.mpr ⟨tb_6 (n := 84) rfl rfl, List.forall_mem_cons.mpr ⟨tb_6 (n := 86) rfl rfl, List.forall_mem_cons.mpr ⟨tb_6 (n := 88) rfl rfl, List.forall_mem_cons.mpr ⟨tb_6 (n := 90) rfl rfl, List.forall_mem_cons.mpr ⟨tb_6 (n := 92) rfl rfl, List.forall_mem_cons.mpr ⟨tb_6 (n := 94) rfl rfl, fun _ h => absurd h List.not_mem_nil⟩⟩⟩⟩⟩⟩⟩⟩⟩⟩⟩⟩⟩⟩⟩⟩⟩⟩⟩⟩⟩⟩⟩⟩⟩⟩⟩⟩⟩⟩⟩⟩⟩⟩⟩⟩⟩⟩⟩⟩⟩⟩⟩⟩⟩⟩⟩⟩⟩⟩⟩⟩⟩⟩⟩⟩⟩⟩⟩⟩⟩⟩⟩⟩⟩⟩⟩⟩⟩⟩⟩⟩⟩⟩⟩⟩⟩⟩⟩⟩⟩
theorem am_ws_in : ∀ {ci : Nat}, ci < 10 → ∀ w ∈ u_ws (am_own ci) (am_T ci) (am_nf ci), w ∈ am_WL
  | 0, _ => am_ws_0
  | 1, _ => am_ws_1
  | 2, _ => am_ws_2
  | 3, _ => am_ws_3
  | 4, _ => am_ws_4
  | 5, _ => am_ws_5
  | 6, _ => am_ws_6
  | 7, _ => am_ws_7
  | 8, _ => am_ws_8
  | 9, _ => am_ws_9
  | _ + 10, h => absurd h (by omega)
theorem am_ty_ok : ∀ {ci : Nat}, ci < 10 → ∀ k, k < am_nf ci → parseFieldDescriptor (am_T ci k).2.2.1 = some (am_Ty ci k)
  | 0, _ => tyX0_ok
  | 1, _ => tyX1_ok
  | 2, _ => tyX2_ok
  | 3, _ => tyX3_ok
  | 4, _ => tyX4_ok
  | 5, _ => tyX5_ok
  | 6, _ => tyX6_ok
  | 7, _ => tyX7_ok
  | 8, _ => tyX8_ok
  | 9, _ => tyX9_ok
  | _ + 10, h => absurd h (by omega)
theorem am_nm_ok : ∀ {ci : Nat}, ci < 10 → ∀ a, a < am_nf ci → ∀ b, b < am_nf ci → a ≠ b → (am_T ci a).2.1 ≠ (am_T ci b).2.1
  | 0, _ => nmX0
  | 1, _ => nmX1
  | 2, _ => nmX2
  | 3, _ => nmX3
  | 4, _ => nmX4
  | 5, _ => nmX5
  | 6, _ => nmX6
  | 7, _ => nmX7
  | 8, _ => nmX8
  | 9, _ => nmX9
  | _ + 10, h => absurd h (by omega)
def am_isobj : FieldType → Bool
  | .object _ => true
  | _ => false
def am_fcb (ci k : Nat) : Bool := match am_fty ci k with
  | 0 => decide (am_Ty ci k = .int) && !(am_T ci k).2.2.2
  | 1 => decide (am_Ty ci k = .long) && !(am_T ci k).2.2.2
  | 3 => am_isobj (am_Ty ci k) && !(am_T ci k).2.2.2
  | 4 => decide (am_Ty ci k = .boolean) && !(am_T ci k).2.2.2
  | _ => true
def am_fck (ci k : Nat) : Prop := match am_fty ci k with
  | 0 => am_Ty ci k = .int ∧ (am_T ci k).2.2.2 = false
  | 1 => am_Ty ci k = .long ∧ (am_T ci k).2.2.2 = false
  | 3 => (∃ n, am_Ty ci k = .object n) ∧ (am_T ci k).2.2.2 = false
  | 4 => am_Ty ci k = .boolean ∧ (am_T ci k).2.2.2 = false
  | _ => True
theorem am_fcb_all : ∀ ci, ci < 10 → ∀ k, k < am_nf ci → am_fcb ci k = true := by decide +kernel
theorem am_fchk {ci k : Nat} (h1 : ci < 10) (h2 : k < am_nf ci) : am_fck ci k := by
  have h := am_fcb_all ci h1 k h2
  unfold am_fcb at h
  unfold am_fck
  split at h
  next e => rw [Bool.and_eq_true] at h; exact ⟨of_decide_eq_true h.1, by simpa using h.2⟩
  next e => rw [Bool.and_eq_true] at h; exact ⟨of_decide_eq_true h.1, by simpa using h.2⟩
  next e =>
    rw [Bool.and_eq_true] at h
    refine ⟨?_, by simpa using h.2⟩
    have h1 := h.1
    unfold am_isobj at h1
    split at h1
    next n q => exact ⟨n, q⟩
    next => cases h1
  next e => rw [Bool.and_eq_true] at h; exact ⟨of_decide_eq_true h.1, by simpa using h.2⟩
  next => trivial
theorem am_kd_sz : ∀ a, a < am_NC → (am_kd a).2 < 3000 := by decide +kernel
theorem am_in_ok {lo hi n : Int} (h : am_in lo hi n = true) (h1 : -2147483648 ≤ lo) (h2 : hi ≤ 2147483647) : am_ok (am_I n) := by
  unfold am_in at h
  rw [Bool.and_eq_true] at h
  have a1 := of_decide_eq_true h.1
  have a2 := of_decide_eq_true h.2
  exact ⟨by omega, by omega⟩
theorem am_bi {n : Int} (h : am_in (-128) 127 n = true) : (Int8.ofInt n).toInt32 = Int32.ofInt n := by
  unfold am_in at h
  rw [Bool.and_eq_true] at h
  have a1 := of_decide_eq_true h.1
  have a2 := of_decide_eq_true h.2
  rw [← Int32.toInt_inj, Int8.toInt_toInt32, am_t32 ⟨by omega, by omega⟩]
  exact Int8.toInt_ofInt_of_le (by simpa using a1) (by simp; omega)
theorem am_si {n : Int} (h : am_in (-32768) 32767 n = true) : (Int16.ofInt n).toInt32 = Int32.ofInt n := by
  unfold am_in at h
  rw [Bool.and_eq_true] at h
  have a1 := of_decide_eq_true h.1
  have a2 := of_decide_eq_true h.2
  rw [← Int32.toInt_inj, Int16.toInt_toInt32, am_t32 ⟨by omega, by omega⟩]
  exact Int16.toInt_ofInt_of_le (by simpa using a1) (by simp; omega)
theorem am_lc (q : Fin 2) : Int64.ofNat (q : Nat) = Int64.ofInt ((q : Nat) : Int) := by
  match q with
  | 0 => rfl
  | 1 => rfl
theorem am_i2l {a : Int} (h : am_r32 a) : (Int32.ofInt a).toInt64 = Int64.ofInt a := by
  rw [← Int64.toInt_inj, Int32.toInt_toInt64, am_t32 h, am_t64 ⟨by have := h.1; omega, by have := h.2; omega⟩]
theorem am_lcmp_of {a b : Int} (ha : am_r64 a) (hb : am_r64 b) : Int32.ofInt (am_lcmp a b) = lg_cmp (Int64.ofInt a) (Int64.ofInt b) := by
  have e1 : Int64.ofInt b < Int64.ofInt a ↔ b < a := by rw [Int64.lt_iff_toInt_lt, am_t64 ha, am_t64 hb]
  have e2 : Int64.ofInt a = Int64.ofInt b ↔ a = b := by rw [← Int64.toInt_inj, am_t64 ha, am_t64 hb]
  unfold am_lcmp lg_cmp
  by_cases h1 : a < b
  · rw [if_pos h1]
    simp [e1, e2, show ¬ b < a by omega, show ¬ a = b by omega]
  · rw [if_neg h1]
    by_cases h2 : a = b
    · subst h2
      simp
    · rw [if_neg h2]
      simp [e1, e2, show b < a by omega]
theorem am_lsw_nn {pc : Nat} {d z : Int} : ∀ (ps : List (Int × Int)), (∀ q ∈ ps, 0 ≤ (pc : Int) + q.2) → 0 ≤ (pc : Int) + d → 0 ≤ (pc : Int) + Op.lookupswitch.offset ps d z
  | [], _, h => h
  | (a, o) :: r, h, hd => by
    rw [Op.lookupswitch.offset_cons]
    split
    · exact h (a, o) List.mem_cons_self
    · exact am_lsw_nn r (fun q hq => h q (List.mem_cons_of_mem _ hq)) hd
