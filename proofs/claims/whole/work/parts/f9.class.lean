theorem dX8_init_0 : decode cX8_init 0 = .ok (.aload_n 0, 1) := by decide +kernel
theorem dX8_init_1 : decode cX8_init 1 = .ok (.invokespecial 1, 3) := by decide +kernel
theorem dX8_init_4 : decode cX8_init 4 = .ok (.aload_n 0, 1) := by decide +kernel
theorem dX8_init_5 : decode cX8_init 5 = .ok (.sipush 1600, 3) := by decide +kernel
theorem dX8_init_8 : decode cX8_init 8 = .ok (.newarray .byte, 2) := by decide +kernel
theorem dX8_init_10 : decode cX8_init 10 = .ok (.putfield 9, 3) := by decide +kernel
theorem dX8_init_13 : decode cX8_init 13 = .ok (.aload_n 0, 1) := by decide +kernel
theorem dX8_init_14 : decode cX8_init 14 = .ok (.iconst 0, 1) := by decide +kernel
theorem dX8_init_15 : decode cX8_init 15 = .ok (.putfield 13, 3) := by decide +kernel
theorem dX8_init_18 : decode cX8_init 18 = .ok (.aload_n 0, 1) := by decide +kernel
theorem dX8_init_19 : decode cX8_init 19 = .ok (.new 17, 3) := by decide +kernel
theorem dX8_init_22 : decode cX8_init 22 = .ok (.dup, 1) := by decide +kernel
theorem dX8_init_23 : decode cX8_init 23 = .ok (.invokespecial 19, 3) := by decide +kernel
theorem dX8_init_26 : decode cX8_init 26 = .ok (.putfield 20, 3) := by decide +kernel
theorem dX8_init_29 : decode cX8_init 29 = .ok (.aload_n 0, 1) := by decide +kernel
theorem dX8_init_30 : decode cX8_init 30 = .ok (.new 24, 3) := by decide +kernel
theorem dX8_init_33 : decode cX8_init 33 = .ok (.dup, 1) := by decide +kernel
theorem dX8_init_34 : decode cX8_init 34 = .ok (.aload_n 0, 1) := by decide +kernel
theorem dX8_init_35 : decode cX8_init 35 = .ok (.getfield 9, 3) := by decide +kernel
theorem dX8_init_38 : decode cX8_init 38 = .ok (.aload_n 0, 1) := by decide +kernel
theorem dX8_init_39 : decode cX8_init 39 = .ok (.getfield 20, 3) := by decide +kernel
theorem dX8_init_42 : decode cX8_init 42 = .ok (.invokespecial 26, 3) := by decide +kernel
theorem dX8_init_45 : decode cX8_init 45 = .ok (.putfield 29, 3) := by decide +kernel
theorem dX8_init_48 : decode cX8_init 48 = .ok (.aload_n 0, 1) := by decide +kernel
theorem dX8_init_49 : decode cX8_init 49 = .ok (.new 33, 3) := by decide +kernel
theorem dX8_init_52 : decode cX8_init 52 = .ok (.dup, 1) := by decide +kernel
theorem dX8_init_53 : decode cX8_init 53 = .ok (.new 17, 3) := by decide +kernel
theorem dX8_init_56 : decode cX8_init 56 = .ok (.dup, 1) := by decide +kernel
theorem dX8_init_57 : decode cX8_init 57 = .ok (.invokespecial 19, 3) := by decide +kernel
theorem dX8_init_60 : decode cX8_init 60 = .ok (.invokespecial 35, 3) := by decide +kernel
theorem dX8_init_63 : decode cX8_init 63 = .ok (.putfield 38, 3) := by decide +kernel
theorem dX8_init_66 : decode cX8_init 66 = .ok (.aload_n 0, 1) := by decide +kernel
theorem dX8_init_67 : decode cX8_init 67 = .ok (.new 33, 3) := by decide +kernel
theorem dX8_init_70 : decode cX8_init 70 = .ok (.dup, 1) := by decide +kernel
theorem dX8_init_71 : decode cX8_init 71 = .ok (.aload_n 0, 1) := by decide +kernel
theorem dX8_init_72 : decode cX8_init 72 = .ok (.getfield 20, 3) := by decide +kernel
theorem dX8_init_75 : decode cX8_init 75 = .ok (.invokespecial 35, 3) := by decide +kernel
theorem dX8_init_78 : decode cX8_init 78 = .ok (.putfield 42, 3) := by decide +kernel
theorem dX8_init_81 : decode cX8_init 81 = .ok (.aload_n 0, 1) := by decide +kernel
theorem dX8_init_82 : decode cX8_init 82 = .ok (.new 45, 3) := by decide +kernel
theorem dX8_init_85 : decode cX8_init 85 = .ok (.dup, 1) := by decide +kernel
theorem dX8_init_86 : decode cX8_init 86 = .ok (.invokespecial 47, 3) := by decide +kernel
theorem dX8_init_89 : decode cX8_init 89 = .ok (.putfield 48, 3) := by decide +kernel
theorem dX8_init_92 : decode cX8_init 92 = .ok (.aload_n 0, 1) := by decide +kernel
theorem dX8_init_93 : decode cX8_init 93 = .ok (.iconst 3, 1) := by decide +kernel
theorem dX8_init_94 : decode cX8_init 94 = .ok (.bipush 49, 2) := by decide +kernel
theorem dX8_init_96 : decode cX8_init 96 = .ok (.multianewarray 52 2, 4) := by decide +kernel
theorem dX8_init_100 : decode cX8_init 100 = .ok (.putfield 54, 3) := by decide +kernel
theorem dX8_init_103 : decode cX8_init 103 = .ok (.aload_n 0, 1) := by decide +kernel
theorem dX8_init_104 : decode cX8_init 104 = .ok (.iconst 0, 1) := by decide +kernel
theorem dX8_init_105 : decode cX8_init 105 = .ok (.putfield 57, 3) := by decide +kernel
theorem dX8_init_108 : decode cX8_init 108 = .ok (.aload_n 0, 1) := by decide +kernel
theorem dX8_init_109 : decode cX8_init 109 = .ok (.new 60, 3) := by decide +kernel
theorem dX8_init_112 : decode cX8_init 112 = .ok (.dup, 1) := by decide +kernel
theorem dX8_init_113 : decode cX8_init 113 = .ok (.aload_n 0, 1) := by decide +kernel
theorem dX8_init_114 : decode cX8_init 114 = .ok (.getfield 38, 3) := by decide +kernel
theorem dX8_init_117 : decode cX8_init 117 = .ok (.invokespecial 62, 3) := by decide +kernel
theorem dX8_init_120 : decode cX8_init 120 = .ok (.putfield 65, 3) := by decide +kernel
theorem dX8_init_123 : decode cX8_init 123 = .ok (.aload_n 0, 1) := by decide +kernel
theorem dX8_init_124 : decode cX8_init 124 = .ok (.new 69, 3) := by decide +kernel
theorem dX8_init_127 : decode cX8_init 127 = .ok (.dup, 1) := by decide +kernel
theorem dX8_init_128 : decode cX8_init 128 = .ok (.aload_n 0, 1) := by decide +kernel
theorem dX8_init_129 : decode cX8_init 129 = .ok (.getfield 38, 3) := by decide +kernel
theorem dX8_init_132 : decode cX8_init 132 = .ok (.invokespecial 71, 3) := by decide +kernel
theorem dX8_init_135 : decode cX8_init 135 = .ok (.putfield 72, 3) := by decide +kernel
theorem dX8_init_138 : decode cX8_init 138 = .ok (.aload_n 0, 1) := by decide +kernel
theorem dX8_init_139 : decode cX8_init 139 = .ok (.new 76, 3) := by decide +kernel
theorem dX8_init_142 : decode cX8_init 142 = .ok (.dup, 1) := by decide +kernel
theorem dX8_init_143 : decode cX8_init 143 = .ok (.invokespecial 78, 3) := by decide +kernel
theorem dX8_init_146 : decode cX8_init 146 = .ok (.putfield 79, 3) := by decide +kernel
theorem dX8_init_149 : decode cX8_init 149 = .ok (.aload_n 0, 1) := by decide +kernel
theorem dX8_init_150 : decode cX8_init 150 = .ok (.iconst 0, 1) := by decide +kernel
theorem dX8_init_151 : decode cX8_init 151 = .ok (.putfield 83, 3) := by decide +kernel
theorem dX8_init_154 : decode cX8_init 154 = .ok (.aload_n 0, 1) := by decide +kernel
theorem dX8_init_155 : decode cX8_init 155 = .ok (.bipush 8, 2) := by decide +kernel
theorem dX8_init_157 : decode cX8_init 157 = .ok (.newarray .int, 2) := by decide +kernel
theorem dX8_init_159 : decode cX8_init 159 = .ok (.putfield 86, 3) := by decide +kernel
theorem dX8_init_162 : decode cX8_init 162 = .ok (.aload_n 0, 1) := by decide +kernel
theorem dX8_init_163 : decode cX8_init 163 = .ok (.iconst 0, 1) := by decide +kernel
theorem dX8_init_164 : decode cX8_init 164 = .ok (.putfield 90, 3) := by decide +kernel
theorem dX8_init_167 : decode cX8_init 167 = .ok (.aload_n 0, 1) := by decide +kernel
theorem dX8_init_168 : decode cX8_init 168 = .ok (.getfield 38, 3) := by decide +kernel
theorem dX8_init_171 : decode cX8_init 171 = .ok (.invokevirtual 93, 3) := by decide +kernel
theorem dX8_init_174 : decode cX8_init 174 = .ok (.aload_n 0, 1) := by decide +kernel
theorem dX8_init_175 : decode cX8_init 175 = .ok (.getfield 48, 3) := by decide +kernel
theorem dX8_init_178 : decode cX8_init 178 = .ok (.aload_n 0, 1) := by decide +kernel
theorem dX8_init_179 : decode cX8_init 179 = .ok (.getfield 38, 3) := by decide +kernel
theorem dX8_init_182 : decode cX8_init 182 = .ok (.getfield 96, 3) := by decide +kernel
theorem dX8_init_185 : decode cX8_init 185 = .ok (.invokevirtual 99, 3) := by decide +kernel
theorem dX8_init_188 : decode cX8_init 188 = .ok (.return_, 1) := by decide +kernel
def kW_8 (cT : Nat → ClassId) (ad : Nat → Nat) : va_W := [(ad 0, .inr (8, [.ref (ad 1), .int (Int32.ofInt 0), .ref (ad 2), .ref (ad 66), .ref (ad 68), .ref (ad 70), .ref (ad 72), .ref (ad 115), .int (Int32.ofInt 0), .ref (ad 119), .ref (ad 123), .ref (ad 127), .int (Int32.ofInt 0), .ref (ad 134), .int (Int32.ofInt 0)])),
  (ad 1, .inl (cT 1, 1600, .inl (fun _ => Int32.ofInt 0))),
  (ad 2, .inr (7, [.ref (ad 3), .ref (ad 4), .ref (ad 9), .ref (ad 15), .ref (ad 16), .ref (ad 17), .ref (ad 21), .ref (ad 22), .ref (ad 23), .ref (ad 30), .int (Int32.ofInt 40), .int (Int32.ofInt 0)])),
  (ad 3, .inl (cT 0, 5, .inl (fun _ => Int32.ofInt 0))),
  (ad 4, .inl (cT 5, 4, .inr (.inr (.inr (.inr (fun j => some (([ad 5, ad 6, ad 7, ad 8] : List Nat).getD j 0))))))),
  (ad 5, .inl (cT 3, 8, .inr (.inl (fun _ => Int64.ofInt 0)))),
  (ad 6, .inl (cT 3, 8, .inr (.inl (fun _ => Int64.ofInt 0)))),
  (ad 7, .inl (cT 3, 8, .inr (.inl (fun _ => Int64.ofInt 0)))),
  (ad 8, .inl (cT 3, 8, .inr (.inl (fun _ => Int64.ofInt 0)))),
  (ad 9, .inl (cT 4, 5, .inr (.inr (.inr (.inr (fun j => some (([ad 10, ad 11, ad 12, ad 13, ad 14] : List Nat).getD j 0))))))),
  (ad 10, .inl (cT 0, 8, .inl (fun _ => Int32.ofInt 0))),
  (ad 11, .inl (cT 0, 8, .inl (fun _ => Int32.ofInt 0))),
  (ad 12, .inl (cT 0, 8, .inl (fun _ => Int32.ofInt 0))),
  (ad 13, .inl (cT 0, 8, .inl (fun _ => Int32.ofInt 0))),
  (ad 14, .inl (cT 0, 8, .inl (fun _ => Int32.ofInt 0))),
  (ad 15, .inl (cT 0, 8, .inl (fun _ => Int32.ofInt 0))),
  (ad 16, .inl (cT 0, 8, .inl (fun _ => Int32.ofInt 0))),
  (ad 17, .inl (cT 4, 3, .inr (.inr (.inr (.inr (fun j => some (([ad 18, ad 19, ad 20] : List Nat).getD j 0))))))),
  (ad 18, .inl (cT 0, 8, .inl (fun _ => Int32.ofInt 0))),
  (ad 19, .inl (cT 0, 8, .inl (fun _ => Int32.ofInt 0))),
  (ad 20, .inl (cT 0, 8, .inl (fun _ => Int32.ofInt 0))),
  (ad 21, .inl (cT 0, 6, .inl (fun _ => Int32.ofInt 0))),
  (ad 22, .inl (cT 0, 6, .inl (fun _ => Int32.ofInt 0))),
  (ad 23, .inl (cT 4, 6, .inr (.inr (.inr (.inr (fun j => some (([ad 24, ad 25, ad 26, ad 27, ad 28, ad 29] : List Nat).getD j 0))))))),
  (ad 24, .inl (cT 0, 4, .inl (fun _ => Int32.ofInt 0))),
  (ad 25, .inl (cT 0, 4, .inl (fun _ => Int32.ofInt 0))),
  (ad 26, .inl (cT 0, 4, .inl (fun _ => Int32.ofInt 0))),
  (ad 27, .inl (cT 0, 4, .inl (fun _ => Int32.ofInt 0))),
  (ad 28, .inl (cT 0, 4, .inl (fun _ => Int32.ofInt 0))),
  (ad 29, .inl (cT 0, 4, .inl (fun _ => Int32.ofInt 0))),
  (ad 30, .inr (0, [.ref (ad 31), .ref (ad 32), .ref (ad 33), .int (Int32.ofInt 0), .int (Int32.ofInt 0)])),
  (ad 31, .inl (cT 0, 300, .inl (fun _ => Int32.ofInt 0))),
  (ad 32, .inl (cT 0, 300, .inl (fun _ => Int32.ofInt 0))),
  (ad 33, .inl (cT 0, 30, .inl (fun _ => Int32.ofInt 0))),
  (ad 66, .inr (4, [.int (Int32.ofInt 0), .int (Int32.ofInt (-1)), .ref (ad 67), .ref (ad 1), .int (Int32.ofInt 0), .int (Int32.ofInt 0), .int (Int32.ofInt 102), .int (Int32.ofInt 0), .long (Int64.ofInt 0), .int (Int32.ofInt 0), .ref (ad 2), .int (Int32.ofInt 0)])),
  (ad 67, .inl (cT 3, 21, .inr (.inl wF_))),
  (ad 34, .inr (7, [.ref (ad 35), .ref (ad 36), .ref (ad 41), .ref (ad 47), .ref (ad 48), .ref (ad 49), .ref (ad 53), .ref (ad 54), .ref (ad 55), .ref (ad 62), .int (Int32.ofInt 40), .int (Int32.ofInt 0)])),
  (ad 35, .inl (cT 0, 5, .inl (fun _ => Int32.ofInt 0))),
  (ad 36, .inl (cT 5, 4, .inr (.inr (.inr (.inr (fun j => some (([ad 37, ad 38, ad 39, ad 40] : List Nat).getD j 0))))))),
  (ad 37, .inl (cT 3, 8, .inr (.inl (fun _ => Int64.ofInt 0)))),
  (ad 38, .inl (cT 3, 8, .inr (.inl (fun _ => Int64.ofInt 0)))),
  (ad 39, .inl (cT 3, 8, .inr (.inl (fun _ => Int64.ofInt 0)))),
  (ad 40, .inl (cT 3, 8, .inr (.inl (fun _ => Int64.ofInt 0)))),
  (ad 41, .inl (cT 4, 5, .inr (.inr (.inr (.inr (fun j => some (([ad 42, ad 43, ad 44, ad 45, ad 46] : List Nat).getD j 0))))))),
  (ad 42, .inl (cT 0, 8, .inl (fun _ => Int32.ofInt 0))),
  (ad 43, .inl (cT 0, 8, .inl (fun _ => Int32.ofInt 0))),
  (ad 44, .inl (cT 0, 8, .inl (fun _ => Int32.ofInt 0))),
  (ad 45, .inl (cT 0, 8, .inl (fun _ => Int32.ofInt 0))),
  (ad 46, .inl (cT 0, 8, .inl (fun _ => Int32.ofInt 0))),
  (ad 47, .inl (cT 0, 8, .inl (fun _ => Int32.ofInt 0))),
  (ad 48, .inl (cT 0, 8, .inl (fun _ => Int32.ofInt 0))),
  (ad 49, .inl (cT 4, 3, .inr (.inr (.inr (.inr (fun j => some (([ad 50, ad 51, ad 52] : List Nat).getD j 0))))))),
  (ad 50, .inl (cT 0, 8, .inl (fun _ => Int32.ofInt 0))),
  (ad 51, .inl (cT 0, 8, .inl (fun _ => Int32.ofInt 0))),
  (ad 52, .inl (cT 0, 8, .inl (fun _ => Int32.ofInt 0))),
  (ad 53, .inl (cT 0, 6, .inl (fun _ => Int32.ofInt 0))),
  (ad 54, .inl (cT 0, 6, .inl (fun _ => Int32.ofInt 0))),
  (ad 55, .inl (cT 4, 6, .inr (.inr (.inr (.inr (fun j => some (([ad 56, ad 57, ad 58, ad 59, ad 60, ad 61] : List Nat).getD j 0))))))),
  (ad 56, .inl (cT 0, 4, .inl (fun _ => Int32.ofInt 0))),
  (ad 57, .inl (cT 0, 4, .inl (fun _ => Int32.ofInt 0))),
  (ad 58, .inl (cT 0, 4, .inl (fun _ => Int32.ofInt 0))),
  (ad 59, .inl (cT 0, 4, .inl (fun _ => Int32.ofInt 0))),
  (ad 60, .inl (cT 0, 4, .inl (fun _ => Int32.ofInt 0))),
  (ad 61, .inl (cT 0, 4, .inl (fun _ => Int32.ofInt 0))),
  (ad 62, .inr (0, [.ref (ad 63), .ref (ad 64), .ref (ad 65), .int (Int32.ofInt 0), .int (Int32.ofInt 0)])),
  (ad 63, .inl (cT 0, 300, .inl (fun _ => Int32.ofInt 0))),
  (ad 64, .inl (cT 0, 300, .inl (fun _ => Int32.ofInt 0))),
  (ad 65, .inl (cT 0, 30, .inl (fun _ => Int32.ofInt 0))),
  (ad 68, .inr (2, [.ref (ad 69), .ref (ad 34), .int (Int32.ofInt 0)])),
  (ad 69, .inl (cT 0, 49, .inl (fun _ => Int32.ofInt 0))),
  (ad 70, .inr (2, [.ref (ad 71), .ref (ad 2), .int (Int32.ofInt 0)])),
  (ad 71, .inl (cT 0, 49, .inl (fun _ => Int32.ofInt 0))),
  (ad 72, .inr (1, [.int (Int32.ofInt 0), .int (Int32.ofInt 0), .ref (ad 73), .int (Int32.ofInt 0)])),
  (ad 73, .inl (cT 4, 41, .inr (.inr (.inr (.inr (fun j => some (([ad 74, ad 75, ad 76, ad 77, ad 78, ad 79, ad 80, ad 81, ad 82, ad 83, ad 84, ad 85, ad 86, ad 87, ad 88, ad 89, ad 90, ad 91, ad 92, ad 93, ad 94, ad 95, ad 96, ad 97, ad 98, ad 99, ad 100, ad 101, ad 102, ad 103, ad 104, ad 105, ad 106, ad 107, ad 108, ad 109, ad 110, ad 111, ad 112, ad 113, ad 114] : List Nat).getD j 0))))))),
  (ad 74, .inl (cT 0, 49, .inl (fun _ => Int32.ofInt 0))),
  (ad 75, .inl (cT 0, 49, .inl (fun _ => Int32.ofInt 0))),
  (ad 76, .inl (cT 0, 49, .inl (fun _ => Int32.ofInt 0))),
  (ad 77, .inl (cT 0, 49, .inl (fun _ => Int32.ofInt 0))),
  (ad 78, .inl (cT 0, 49, .inl (fun _ => Int32.ofInt 0))),
  (ad 79, .inl (cT 0, 49, .inl (fun _ => Int32.ofInt 0))),
  (ad 80, .inl (cT 0, 49, .inl (fun _ => Int32.ofInt 0))),
  (ad 81, .inl (cT 0, 49, .inl (fun _ => Int32.ofInt 0))),
  (ad 82, .inl (cT 0, 49, .inl (fun _ => Int32.ofInt 0))),
  (ad 83, .inl (cT 0, 49, .inl (fun _ => Int32.ofInt 0))),
  (ad 84, .inl (cT 0, 49, .inl (fun _ => Int32.ofInt 0))),
  (ad 85, .inl (cT 0, 49, .inl (fun _ => Int32.ofInt 0))),
  (ad 86, .inl (cT 0, 49, .inl (fun _ => Int32.ofInt 0))),
  (ad 87, .inl (cT 0, 49, .inl (fun _ => Int32.ofInt 0))),
  (ad 88, .inl (cT 0, 49, .inl (fun _ => Int32.ofInt 0))),
  (ad 89, .inl (cT 0, 49, .inl (fun _ => Int32.ofInt 0))),
  (ad 90, .inl (cT 0, 49, .inl (fun _ => Int32.ofInt 0))),
  (ad 91, .inl (cT 0, 49, .inl (fun _ => Int32.ofInt 0))),
  (ad 92, .inl (cT 0, 49, .inl (fun _ => Int32.ofInt 0))),
  (ad 93, .inl (cT 0, 49, .inl (fun _ => Int32.ofInt 0))),
  (ad 94, .inl (cT 0, 49, .inl (fun _ => Int32.ofInt 0))),
  (ad 95, .inl (cT 0, 49, .inl (fun _ => Int32.ofInt 0))),
  (ad 96, .inl (cT 0, 49, .inl (fun _ => Int32.ofInt 0))),
  (ad 97, .inl (cT 0, 49, .inl (fun _ => Int32.ofInt 0))),
  (ad 98, .inl (cT 0, 49, .inl (fun _ => Int32.ofInt 0))),
  (ad 99, .inl (cT 0, 49, .inl (fun _ => Int32.ofInt 0))),
  (ad 100, .inl (cT 0, 49, .inl (fun _ => Int32.ofInt 0))),
  (ad 101, .inl (cT 0, 49, .inl (fun _ => Int32.ofInt 0))),
  (ad 102, .inl (cT 0, 49, .inl (fun _ => Int32.ofInt 0))),
  (ad 103, .inl (cT 0, 49, .inl (fun _ => Int32.ofInt 0))),
  (ad 104, .inl (cT 0, 49, .inl (fun _ => Int32.ofInt 0))),
  (ad 105, .inl (cT 0, 49, .inl (fun _ => Int32.ofInt 0))),
  (ad 106, .inl (cT 0, 49, .inl (fun _ => Int32.ofInt 0))),
  (ad 107, .inl (cT 0, 49, .inl (fun _ => Int32.ofInt 0))),
  (ad 108, .inl (cT 0, 49, .inl (fun _ => Int32.ofInt 0))),
  (ad 109, .inl (cT 0, 49, .inl (fun _ => Int32.ofInt 0))),
  (ad 110, .inl (cT 0, 49, .inl (fun _ => Int32.ofInt 0))),
  (ad 111, .inl (cT 0, 49, .inl (fun _ => Int32.ofInt 0))),
  (ad 112, .inl (cT 0, 49, .inl (fun _ => Int32.ofInt 0))),
  (ad 113, .inl (cT 0, 49, .inl (fun _ => Int32.ofInt 0))),
  (ad 114, .inl (cT 0, 49, .inl (fun _ => Int32.ofInt 0))),
  (ad 115, .inl (cT 4, 3, .inr (.inr (.inr (.inr (fun j => some (([ad 116, ad 117, ad 118] : List Nat).getD j 0))))))),
  (ad 116, .inl (cT 0, 49, .inl (fun _ => Int32.ofInt 0))),
  (ad 117, .inl (cT 0, 49, .inl (fun _ => Int32.ofInt 0))),
  (ad 118, .inl (cT 0, 49, .inl (fun _ => Int32.ofInt 0))),
  (ad 119, .inr (3, [.ref (ad 120), .ref (ad 121), .ref (ad 122), .ref (ad 68), .int (Int32.ofInt 0), .int (Int32.ofInt 0)])),
  (ad 120, .inl (cT 0, 4, .inl (fun _ => Int32.ofInt 0))),
  (ad 121, .inl (cT 0, 4, .inl (fun _ => Int32.ofInt 0))),
  (ad 122, .inl (cT 0, 4, .inl (fun _ => Int32.ofInt 0))),
  (ad 123, .inr (5, [.ref (ad 124), .ref (ad 125), .ref (ad 126), .ref (ad 68), .int (Int32.ofInt 0)])),
  (ad 124, .inl (cT 0, 6, .inl (fun _ => Int32.ofInt 0))),
  (ad 125, .inl (cT 0, 6, .inl (fun _ => Int32.ofInt 0))),
  (ad 126, .inl (cT 0, 6, .inl (fun _ => Int32.ofInt 0))),
  (ad 127, .inr (6, [.int (Int32.ofInt 0), .ref (ad 128), .ref (ad 129), .ref (ad 130), .ref (ad 131), .ref (ad 132), .ref (ad 133)])),
  (ad 128, .inl (cT 0, 30, .inl (fun _ => Int32.ofInt 0))),
  (ad 129, .inl (cT 0, 30, .inl (fun _ => Int32.ofInt 0))),
  (ad 130, .inl (cT 0, 30, .inl (fun _ => Int32.ofInt 0))),
  (ad 131, .inl (cT 2, 30, .inl (fun _ => Int32.ofInt 0))),
  (ad 132, .inl (cT 0, 30, .inl (fun _ => Int32.ofInt 0))),
  (ad 133, .inl (cT 0, 30, .inl (fun _ => Int32.ofInt 0))),
  (ad 134, .inl (cT 0, 8, .inl (fun _ => Int32.ofInt 0)))]
set_option maxHeartbeats 16000000 in
set_option maxRecDepth 100000 in
theorem kn_8 (l : Launch) (cT : Nat → ClassId) (D : va_G) (h0 sz kS kB : Nat) : Met l yX8_init (Cond.code yX8_init cX8_init 1 none :: am_WL) (kR_ 5 134 5813) (va_Pc [.ref h0] (kPs_ cT D h0 sz (.inr (8, [.null, .int (Int32.ofInt 0), .null, .null, .null, .null, .null, .null, .int (Int32.ofInt 0), .null, .null, .null, .int (Int32.ofInt 0), .null, .int (Int32.ofInt 0)])) kS kB)) (kQ_ D (kW_8 cT) h0 sz) 134 5813 (fr0 h0 sz) := by
  refine Met.ofW (cc := cX8_init) (maxL := 1) (ret := none) (by decide) rfl ?_
  intro p e s m args below meth c s₁ B hml hv
  obtain ⟨rfl, ⟨hsz, hP, hC⟩, hZ⟩ := hv
  have hx := B.exec
  have hb := B.bytes
  have hr := B.returns
  have hts0 := atoms_spec (ws := Cond.code yX8_init cX8_init 1 none :: am_WL) B.pre
  have hts : ∀ w ∈ am_WL, w.before ([.ref h0].toArray) s = true := fun w hw => hts0 w (List.mem_cons_of_mem _ hw)
  have hown : s.vm.findClass RX8 = some m.cls := findClass_of_methodNamed B.named
  have hlocks := B.notSynchronized
  have hin : meth.name = "<init>" := (name_of_methodNamed B.named B.method).1
  subst hsz
  have hK := hC.1
  have hA : ∀ q : Nat, s.heap.size ≤ q → fr0 h0 s.heap.size q := fun q h => Or.inr h
  have hD : va_D (fr0 h0 s.heap.size) [(h0, .inr (8, [.null, .int (Int32.ofInt 0), .null, .null, .null, .null, .null, .null, .int (Int32.ofInt 0), .null, .null, .null, .int (Int32.ofInt 0), .null, .int (Int32.ofInt 0)]))] := d1_
  have hS : va_S (fr0 h0 s.heap.size) s.heap s.heap [] := va_S.rf
  have hl := lv_entry ([.ref h0]) (n := 1) (Nat.le_of_ble_eq_true rfl)
  rw [lg_entry_eq]
  generalize (lg_sl ([.ref h0]) ++ List.replicate (1 - (lg_sl ([.ref h0])).length) Slot.unset).toArray = ls at hl ⊢
  have hl : lv_has ls 1 [(0, .ref h0)] := hl
  have hD : va_D (fr0 h0 s.heap.size) ((h0, .inr (8, [.null, .int (Int32.ofInt 0), .null, .null, .null, .null, .null, .null, .int (Int32.ofInt 0), .null, .null, .null, .int (Int32.ofInt 0), .null, .int (Int32.ofInt 0)])) :: ([] : va_W)) := hD
  have hP : va_P D am_cl ((h0, .inr (8, [.null, .int (Int32.ofInt 0), .null, .null, .null, .null, .null, .null, .int (Int32.ofInt 0), .null, .null, .null, .int (Int32.ofInt 0), .null, .int (Int32.ofInt 0)])) :: ([] : va_W)) s.heap := hP
  generalize eX0 : ([] : va_W) = X0 at hP hD
  refine lv_aload_n hx hb dX8_init_0 rfl (lv_at hl 0 rfl) ?_
  refine W.objInit hx hb hown (hts _ (tb_1 (n := 24) rfl rfl)) (hts _ (tb_1 (n := 25) rfl rfl)) (hts (.code objectInit ⟨#[0xb1]⟩ 1 none) (tb_1 (n := 26) rfl rfl)) rfl (by rw [hml]; exact hl.1) rfl dX8_init_1 (Nat.le_of_ble_eq_true rfl) (Nat.le_of_ble_eq_true rfl) ?_
  refine W.eq (g2 := F0 m 4 ls []) rfl ?_
  refine lv_aload_n hx hb dX8_init_4 rfl (lv_at hl 0 rfl) ?_
  refine lv_sipush (v := Int32.ofInt 1600) hx hb dX8_init_5 (by decide) ?_
  refine nw_arr (atype := .byte) (ty := .byte) (t0 := 1) (N' := 1600) (a0 := (1600, .inl (fun _ => Int32.ofInt 0))) hx hb (hts (.arrayClass .byte) (tb_1 (n := 61) rfl rfl)) rfl (fun _ h => h) hK rfl hP hD hS hA (za_byte 1600) (by decide) rfl (Nat.le_of_ble_eq_true rfl) (Nat.le_of_ble_eq_true rfl) (Nat.le_of_ble_eq_true rfl) dX8_init_8 (fun q8 H hP hD hS => ?_)
  have hP : va_P D am_cl ((h0, .inr (8, [.null, .int (Int32.ofInt 0), .null, .null, .null, .null, .null, .null, .int (Int32.ofInt 0), .null, .null, .null, .int (Int32.ofInt 0), .null, .int (Int32.ofInt 0)])) :: (X0 ++ [(q8, .inl (cT 1, 1600, .inl (fun _ => Int32.ofInt 0)))])) H := hP
  have hD : va_D (fr0 h0 s.heap.size) ((h0, .inr (8, [.null, .int (Int32.ofInt 0), .null, .null, .null, .null, .null, .null, .int (Int32.ofInt 0), .null, .null, .null, .int (Int32.ofInt 0), .null, .int (Int32.ofInt 0)])) :: (X0 ++ [(q8, .inl (cT 1, 1600, .inl (fun _ => Int32.ofInt 0)))])) := hD
  generalize eX1 : X0 ++ [(q8, .inl (cT 1, 1600, .inl (fun _ => Int32.ofInt 0)))] = X1 at hP hD
  refine va_putF (D := D) (ci := 8) (v := .ref q8) (ty := .array .byte) (C := RX8) (T := TX8) (N := 15) hx hb hts am_ws_8 tyX8 tyX8_ok nmX8 hown hK hP hD hS 0 rfl rfl 0 (by decide) (hts _ (tb_2 (n := 142) rfl rfl)) (fun _ h9 => h9) rfl hin rfl (tyX8_ok 0 (by decide)) rfl rfl (Nat.le_of_ble_eq_true rfl) dX8_init_10 (fun H locs hP hD hS => ?_)
  have hP : va_P D am_cl ((h0, .inr (8, [.ref q8, .int (Int32.ofInt 0), .null, .null, .null, .null, .null, .null, .int (Int32.ofInt 0), .null, .null, .null, .int (Int32.ofInt 0), .null, .int (Int32.ofInt 0)])) :: X1) H := hP
  have hD : va_D (fr0 h0 s.heap.size) ((h0, .inr (8, [.ref q8, .int (Int32.ofInt 0), .null, .null, .null, .null, .null, .null, .int (Int32.ofInt 0), .null, .null, .null, .int (Int32.ofInt 0), .null, .int (Int32.ofInt 0)])) :: X1) := hD
  refine lv_aload_n hx hb dX8_init_13 rfl (lv_at hl 0 rfl) ?_
  refine lv_iconst (v := Int32.ofInt 0) hx hb dX8_init_14 rfl ?_
  refine va_put (D := D) (ci := 8) (v := .int (Int32.ofInt 0)) (ty := .int) (C := RX8) (T := TX8) (N := 15) hx hb hts am_ws_8 tyX8 tyX8_ok nmX8 hown hK hP hD hS 0 rfl rfl 1 (by decide) (hts _ (tb_2 (n := 143) rfl rfl)) (fun _ h9 => h9) rfl (tyX8_ok 1 (by decide)) rfl rfl (Nat.le_of_ble_eq_true rfl) dX8_init_15 (fun H locs hP hD hS => ?_)
  have hP : va_P D am_cl ((h0, .inr (8, [.ref q8, .int (Int32.ofInt 0), .null, .null, .null, .null, .null, .null, .int (Int32.ofInt 0), .null, .null, .null, .int (Int32.ofInt 0), .null, .int (Int32.ofInt 0)])) :: X1) H := hP
  have hD : va_D (fr0 h0 s.heap.size) ((h0, .inr (8, [.ref q8, .int (Int32.ofInt 0), .null, .null, .null, .null, .null, .null, .int (Int32.ofInt 0), .null, .null, .null, .int (Int32.ofInt 0), .null, .int (Int32.ofInt 0)])) :: X1) := hD
  refine lv_aload_n hx hb dX8_init_18 rfl (lv_at hl 0 rfl) ?_
  refine va_new (ci := 7) (fs := [.null, .null, .null, .null, .null, .null, .null, .null, .null, .null, .int (Int32.ofInt 0), .int (Int32.ofInt 0)]) (C := RX7) (T := TX7) (N := 12) hx hb hts am_ws_7 tyX7 tyX7_ok hown (hts _ (tb_1 (n := 27) rfl rfl)) (hts _ (tb_1 (n := 28) rfl rfl)) (hts _ (tb_1 (n := 2) rfl rfl)) hK hP hD hS hA rfl (fun j hj => by rcases (show j = 0 ∨ j = 1 ∨ j = 2 ∨ j = 3 ∨ j = 4 ∨ j = 5 ∨ j = 6 ∨ j = 7 ∨ j = 8 ∨ j = 9 ∨ j = 10 ∨ j = 11 by omega) with rfl | rfl | rfl | rfl | rfl | rfl | rfl | rfl | rfl | rfl | rfl | rfl <;> rfl) (Nat.le_of_ble_eq_true rfl) (Nat.le_of_ble_eq_true rfl) dX8_init_19 (fun q19 H hP hD hS => ?_)
  have hP : va_P D am_cl (((h0, .inr (8, [.ref q8, .int (Int32.ofInt 0), .null, .null, .null, .null, .null, .null, .int (Int32.ofInt 0), .null, .null, .null, .int (Int32.ofInt 0), .null, .int (Int32.ofInt 0)])) :: X1) ++ [(q19, .inr (7, [.null, .null, .null, .null, .null, .null, .null, .null, .null, .null, .int (Int32.ofInt 0), .int (Int32.ofInt 0)]))]) H := hP
  have hD : va_D (fr0 h0 s.heap.size) (((h0, .inr (8, [.ref q8, .int (Int32.ofInt 0), .null, .null, .null, .null, .null, .null, .int (Int32.ofInt 0), .null, .null, .null, .int (Int32.ofInt 0), .null, .int (Int32.ofInt 0)])) :: X1) ++ [(q19, .inr (7, [.null, .null, .null, .null, .null, .null, .null, .null, .null, .null, .int (Int32.ofInt 0), .int (Int32.ofInt 0)]))]) := hD
  refine lv_dup hx hb dX8_init_22 rfl ?_
  refine nw_call (Wf := kW_7 cT) (va_runIN (As := []) (rest := [.ref q19, .ref h0]) ⟨hx, hb, hml, hown, hts⟩ (kn_7 l cT D q19 H.size) ⟨va_cnB 0 hts (js_goodIn (tb_1 (n := 31) rfl rfl)) rfl rfl rfl hC.2.2.2.1 (hts _ (tb_1 (n := 2) rfl rfl)) ⟨by decide +kernel, by decide +kernel, by decide +kernel⟩ ⟨(Nat.le_of_ble_eq_true rfl), (Nat.le_of_ble_eq_true rfl)⟩, rfl, hts _ (tb_1 (n := 30) rfl rfl)⟩ ⟨kP_blind _, fun U hU hW => ⟨rfl, by rw [hU], by rw [hU]; exact pl_last hP, hC.go hW⟩⟩ rfl rfl hl.1 rfl (lv_room (Nat.le_of_ble_eq_true rfl)) dX8_init_23 ⟨(Nat.le_of_ble_eq_true rfl), (Nat.le_of_ble_eq_true rfl)⟩) hP hD hS hA (fun a23 H locs e23 hP1 hD1 hS => ?_)
  clear hP hD
  subst e23
  have hP := hP1
  have hD := hD1
  clear hP1 hD1
  have hP : va_P D am_cl ((h0, .inr (8, [.ref q8, .int (Int32.ofInt 0), .null, .null, .null, .null, .null, .null, .int (Int32.ofInt 0), .null, .null, .null, .int (Int32.ofInt 0), .null, .int (Int32.ofInt 0)])) :: (X1 ++ kW_7 cT a23)) H := hP
  have hD : va_D (fr0 h0 s.heap.size) ((h0, .inr (8, [.ref q8, .int (Int32.ofInt 0), .null, .null, .null, .null, .null, .null, .int (Int32.ofInt 0), .null, .null, .null, .int (Int32.ofInt 0), .null, .int (Int32.ofInt 0)])) :: (X1 ++ kW_7 cT a23)) := hD
  generalize eX2 : X1 ++ kW_7 cT a23 = X2 at hP hD
  refine va_put (D := D) (ci := 8) (v := .ref (a23 0)) (ty := .object "FortyLetters$Town") (C := RX8) (T := TX8) (N := 15) hx hb hts am_ws_8 tyX8 tyX8_ok nmX8 hown hK hP hD hS 0 rfl rfl 2 (by decide) (hts _ (tb_2 (n := 144) rfl rfl)) (fun _ h9 => h9) rfl (tyX8_ok 2 (by decide)) rfl rfl (Nat.le_of_ble_eq_true rfl) dX8_init_26 (fun H locs hP hD hS => ?_)
  have hP : va_P D am_cl ((h0, .inr (8, [.ref q8, .int (Int32.ofInt 0), .ref (a23 0), .null, .null, .null, .null, .null, .int (Int32.ofInt 0), .null, .null, .null, .int (Int32.ofInt 0), .null, .int (Int32.ofInt 0)])) :: X2) H := hP
  have hD : va_D (fr0 h0 s.heap.size) ((h0, .inr (8, [.ref q8, .int (Int32.ofInt 0), .ref (a23 0), .null, .null, .null, .null, .null, .int (Int32.ofInt 0), .null, .null, .null, .int (Int32.ofInt 0), .null, .int (Int32.ofInt 0)])) :: X2) := hD
  refine lv_aload_n hx hb dX8_init_29 rfl (lv_at hl 0 rfl) ?_
  refine va_new (ci := 4) (fs := [.int (Int32.ofInt 0), .int (Int32.ofInt 0), .null, .null, .int (Int32.ofInt 0), .int (Int32.ofInt 0), .int (Int32.ofInt 0), .int (Int32.ofInt 0), .long (Int64.ofInt 0), .int (Int32.ofInt 0), .null, .int (Int32.ofInt 0)]) (C := RX4) (T := TX4) (N := 12) hx hb hts am_ws_4 tyX4 tyX4_ok hown (hts _ (tb_1 (n := 132) rfl rfl)) (hts _ (tb_1 (n := 133) rfl rfl)) (hts _ (tb_1 (n := 4) rfl rfl)) hK hP hD hS hA rfl (fun j hj => by rcases (show j = 0 ∨ j = 1 ∨ j = 2 ∨ j = 3 ∨ j = 4 ∨ j = 5 ∨ j = 6 ∨ j = 7 ∨ j = 8 ∨ j = 9 ∨ j = 10 ∨ j = 11 by omega) with rfl | rfl | rfl | rfl | rfl | rfl | rfl | rfl | rfl | rfl | rfl | rfl <;> rfl) (Nat.le_of_ble_eq_true rfl) (Nat.le_of_ble_eq_true rfl) dX8_init_30 (fun q30 H hP hD hS => ?_)
  have hP : va_P D am_cl (((h0, .inr (8, [.ref q8, .int (Int32.ofInt 0), .ref (a23 0), .null, .null, .null, .null, .null, .int (Int32.ofInt 0), .null, .null, .null, .int (Int32.ofInt 0), .null, .int (Int32.ofInt 0)])) :: X2) ++ [(q30, .inr (4, [.int (Int32.ofInt 0), .int (Int32.ofInt 0), .null, .null, .int (Int32.ofInt 0), .int (Int32.ofInt 0), .int (Int32.ofInt 0), .int (Int32.ofInt 0), .long (Int64.ofInt 0), .int (Int32.ofInt 0), .null, .int (Int32.ofInt 0)]))]) H := hP
  have hD : va_D (fr0 h0 s.heap.size) (((h0, .inr (8, [.ref q8, .int (Int32.ofInt 0), .ref (a23 0), .null, .null, .null, .null, .null, .int (Int32.ofInt 0), .null, .null, .null, .int (Int32.ofInt 0), .null, .int (Int32.ofInt 0)])) :: X2) ++ [(q30, .inr (4, [.int (Int32.ofInt 0), .int (Int32.ofInt 0), .null, .null, .int (Int32.ofInt 0), .int (Int32.ofInt 0), .int (Int32.ofInt 0), .int (Int32.ofInt 0), .long (Int64.ofInt 0), .int (Int32.ofInt 0), .null, .int (Int32.ofInt 0)]))]) := hD
  refine lv_dup hx hb dX8_init_33 rfl ?_
  refine lv_aload_n hx hb dX8_init_34 rfl (lv_at hl 0 rfl) ?_
  refine va_get (D := D) (ci := 8) (v := .ref q8) (C := RX8) (T := TX8) (N := 15) hx hb hts am_ws_8 hown hK hP 0 rfl rfl 0 (by decide) (hts _ (tb_2 (n := 142) rfl rfl)) (fun _ h9 => h9) rfl dX8_init_35 ?_
  refine lv_aload_n hx hb dX8_init_38 rfl (lv_at hl 0 rfl) ?_
  refine va_get (D := D) (ci := 8) (v := .ref (a23 0)) (C := RX8) (T := TX8) (N := 15) hx hb hts am_ws_8 hown hK hP 0 rfl rfl 2 (by decide) (hts _ (tb_2 (n := 144) rfl rfl)) (fun _ h9 => h9) rfl dX8_init_39 ?_
  refine nw_call (Wf := kW_4 cT q8 (a23 0)) (va_runI (As := [.ref q8, .ref (a23 0)]) (rest := [.ref q30, .ref h0]) ⟨hx, hb, hml, hown, hts⟩ (kn_4 l cT D q30 H.size kS kB q8 (a23 0)) ⟨callB_of 2 hts (js_goodIn (tb_1 (n := 136) rfl rfl)) rfl rfl rfl (hts _ (tb_1 (n := 4) rfl rfl)) (hts _ (tb_1 (n := 134) rfl rfl)) ⟨by decide +kernel, by decide +kernel, by decide +kernel⟩ ⟨(Nat.le_of_ble_eq_true rfl), (Nat.le_of_ble_eq_true rfl)⟩, rfl, hts _ (tb_1 (n := 135) rfl rfl)⟩ ⟨kPs_blind _, fun U hU hW => ⟨rfl, ⟨by rw [hU], by rw [hU]; exact pl_last hP, hC.go hW⟩, by rw [hU]; exact kS_.go hW hS (fun x h => h.elim (fun h => h ▸ (dl_last hD).1) (fun h => hA x (Nat.le_trans hS.1 h))) hZ⟩⟩ rfl rfl hl.1 rfl (lv_room (Nat.le_of_ble_eq_true rfl)) dX8_init_42 ⟨(Nat.le_of_ble_eq_true rfl), (Nat.le_of_ble_eq_true rfl)⟩) hP hD hS hA (fun a42 H locs e42 hP1 hD1 hS => ?_)
  clear hP hD
  subst e42
  have hP := hP1
  have hD := hD1
  clear hP1 hD1
  have hP : va_P D am_cl ((h0, .inr (8, [.ref q8, .int (Int32.ofInt 0), .ref (a23 0), .null, .null, .null, .null, .null, .int (Int32.ofInt 0), .null, .null, .null, .int (Int32.ofInt 0), .null, .int (Int32.ofInt 0)])) :: (X2 ++ kW_4 cT q8 (a23 0) a42)) H := hP
  have hD : va_D (fr0 h0 s.heap.size) ((h0, .inr (8, [.ref q8, .int (Int32.ofInt 0), .ref (a23 0), .null, .null, .null, .null, .null, .int (Int32.ofInt 0), .null, .null, .null, .int (Int32.ofInt 0), .null, .int (Int32.ofInt 0)])) :: (X2 ++ kW_4 cT q8 (a23 0) a42)) := hD
  generalize eX3 : X2 ++ kW_4 cT q8 (a23 0) a42 = X3 at hP hD
  refine va_putF (D := D) (ci := 8) (v := .ref (a42 0)) (ty := .object "FortyLetters$Reader") (C := RX8) (T := TX8) (N := 15) hx hb hts am_ws_8 tyX8 tyX8_ok nmX8 hown hK hP hD hS 0 rfl rfl 3 (by decide) (hts _ (tb_2 (n := 145) rfl rfl)) (fun _ h9 => h9) rfl hin rfl (tyX8_ok 3 (by decide)) rfl rfl (Nat.le_of_ble_eq_true rfl) dX8_init_45 (fun H locs hP hD hS => ?_)
  have hP : va_P D am_cl ((h0, .inr (8, [.ref q8, .int (Int32.ofInt 0), .ref (a23 0), .ref (a42 0), .null, .null, .null, .null, .int (Int32.ofInt 0), .null, .null, .null, .int (Int32.ofInt 0), .null, .int (Int32.ofInt 0)])) :: X3) H := hP
  have hD : va_D (fr0 h0 s.heap.size) ((h0, .inr (8, [.ref q8, .int (Int32.ofInt 0), .ref (a23 0), .ref (a42 0), .null, .null, .null, .null, .int (Int32.ofInt 0), .null, .null, .null, .int (Int32.ofInt 0), .null, .int (Int32.ofInt 0)])) :: X3) := hD
  refine lv_aload_n hx hb dX8_init_48 rfl (lv_at hl 0 rfl) ?_
  refine va_new (ci := 2) (fs := [.null, .null, .int (Int32.ofInt 0)]) (C := RX2) (T := TX2) (N := 3) hx hb hts am_ws_2 tyX2 tyX2_ok hown (hts _ (tb_1 (n := 229) rfl rfl)) (hts _ (tb_1 (n := 230) rfl rfl)) (hts _ (tb_1 (n := 9) rfl rfl)) hK hP hD hS hA rfl (fun j hj => by rcases (show j = 0 ∨ j = 1 ∨ j = 2 by omega) with rfl | rfl | rfl <;> rfl) (Nat.le_of_ble_eq_true rfl) (Nat.le_of_ble_eq_true rfl) dX8_init_49 (fun q49 H hP hD hS => ?_)
  have hP : va_P D am_cl (((h0, .inr (8, [.ref q8, .int (Int32.ofInt 0), .ref (a23 0), .ref (a42 0), .null, .null, .null, .null, .int (Int32.ofInt 0), .null, .null, .null, .int (Int32.ofInt 0), .null, .int (Int32.ofInt 0)])) :: X3) ++ [(q49, .inr (2, [.null, .null, .int (Int32.ofInt 0)]))]) H := hP
  have hD : va_D (fr0 h0 s.heap.size) (((h0, .inr (8, [.ref q8, .int (Int32.ofInt 0), .ref (a23 0), .ref (a42 0), .null, .null, .null, .null, .int (Int32.ofInt 0), .null, .null, .null, .int (Int32.ofInt 0), .null, .int (Int32.ofInt 0)])) :: X3) ++ [(q49, .inr (2, [.null, .null, .int (Int32.ofInt 0)]))]) := hD
  refine lv_dup hx hb dX8_init_52 rfl ?_
  refine va_new (ci := 7) (fs := [.null, .null, .null, .null, .null, .null, .null, .null, .null, .null, .int (Int32.ofInt 0), .int (Int32.ofInt 0)]) (C := RX7) (T := TX7) (N := 12) hx hb hts am_ws_7 tyX7 tyX7_ok hown (hts _ (tb_1 (n := 27) rfl rfl)) (hts _ (tb_1 (n := 28) rfl rfl)) (hts _ (tb_1 (n := 2) rfl rfl)) hK hP hD hS hA rfl (fun j hj => by rcases (show j = 0 ∨ j = 1 ∨ j = 2 ∨ j = 3 ∨ j = 4 ∨ j = 5 ∨ j = 6 ∨ j = 7 ∨ j = 8 ∨ j = 9 ∨ j = 10 ∨ j = 11 by omega) with rfl | rfl | rfl | rfl | rfl | rfl | rfl | rfl | rfl | rfl | rfl | rfl <;> rfl) (Nat.le_of_ble_eq_true rfl) (Nat.le_of_ble_eq_true rfl) dX8_init_53 (fun q53 H hP hD hS => ?_)
  have hP : va_P D am_cl ((((h0, .inr (8, [.ref q8, .int (Int32.ofInt 0), .ref (a23 0), .ref (a42 0), .null, .null, .null, .null, .int (Int32.ofInt 0), .null, .null, .null, .int (Int32.ofInt 0), .null, .int (Int32.ofInt 0)])) :: X3) ++ [(q49, .inr (2, [.null, .null, .int (Int32.ofInt 0)]))]) ++ [(q53, .inr (7, [.null, .null, .null, .null, .null, .null, .null, .null, .null, .null, .int (Int32.ofInt 0), .int (Int32.ofInt 0)]))]) H := hP
  have hD : va_D (fr0 h0 s.heap.size) ((((h0, .inr (8, [.ref q8, .int (Int32.ofInt 0), .ref (a23 0), .ref (a42 0), .null, .null, .null, .null, .int (Int32.ofInt 0), .null, .null, .null, .int (Int32.ofInt 0), .null, .int (Int32.ofInt 0)])) :: X3) ++ [(q49, .inr (2, [.null, .null, .int (Int32.ofInt 0)]))]) ++ [(q53, .inr (7, [.null, .null, .null, .null, .null, .null, .null, .null, .null, .null, .int (Int32.ofInt 0), .int (Int32.ofInt 0)]))]) := hD
  refine lv_dup hx hb dX8_init_56 rfl ?_
  refine nw_call (Wf := kW_7 cT) (va_runIN (As := []) (rest := [.ref q53, .ref q49, .ref q49, .ref h0]) ⟨hx, hb, hml, hown, hts⟩ (kn_7 l cT D q53 H.size) ⟨va_cnB 0 hts (js_goodIn (tb_1 (n := 31) rfl rfl)) rfl rfl rfl hC.2.2.2.1 (hts _ (tb_1 (n := 2) rfl rfl)) ⟨by decide +kernel, by decide +kernel, by decide +kernel⟩ ⟨(Nat.le_of_ble_eq_true rfl), (Nat.le_of_ble_eq_true rfl)⟩, rfl, hts _ (tb_1 (n := 30) rfl rfl)⟩ ⟨kP_blind _, fun U hU hW => ⟨rfl, by rw [hU], by rw [hU]; exact pl_last hP, hC.go hW⟩⟩ rfl rfl hl.1 rfl (lv_room (Nat.le_of_ble_eq_true rfl)) dX8_init_57 ⟨(Nat.le_of_ble_eq_true rfl), (Nat.le_of_ble_eq_true rfl)⟩) hP hD hS hA (fun a57 H locs e57 hP1 hD1 hS => ?_)
  clear hP hD
  subst e57
  have hP := va_P.swap hP1
  have hD := va_D.swap hD1
  clear hP1 hD1
  have hP : va_P D am_cl (((h0, .inr (8, [.ref q8, .int (Int32.ofInt 0), .ref (a23 0), .ref (a42 0), .null, .null, .null, .null, .int (Int32.ofInt 0), .null, .null, .null, .int (Int32.ofInt 0), .null, .int (Int32.ofInt 0)])) :: (X3 ++ kW_7 cT a57)) ++ [(q49, .inr (2, [.null, .null, .int (Int32.ofInt 0)]))]) H := hP
  have hD : va_D (fr0 h0 s.heap.size) (((h0, .inr (8, [.ref q8, .int (Int32.ofInt 0), .ref (a23 0), .ref (a42 0), .null, .null, .null, .null, .int (Int32.ofInt 0), .null, .null, .null, .int (Int32.ofInt 0), .null, .int (Int32.ofInt 0)])) :: (X3 ++ kW_7 cT a57)) ++ [(q49, .inr (2, [.null, .null, .int (Int32.ofInt 0)]))]) := hD
  generalize eX4 : X3 ++ kW_7 cT a57 = X4 at hP hD
  refine nw_call (Wf := kW_2 cT (a57 0)) (va_runI (As := [.ref (a57 0)]) (rest := [.ref q49, .ref h0]) ⟨hx, hb, hml, hown, hts⟩ (kn_2 l cT D q49 H.size (a57 0)) ⟨callB_of 1 hts (js_goodIn (tb_1 (n := 233) rfl rfl)) rfl rfl rfl (hts _ (tb_1 (n := 9) rfl rfl)) (hts _ (tb_1 (n := 231) rfl rfl)) ⟨by decide +kernel, by decide +kernel, by decide +kernel⟩ ⟨(Nat.le_of_ble_eq_true rfl), (Nat.le_of_ble_eq_true rfl)⟩, rfl, hts _ (tb_1 (n := 232) rfl rfl)⟩ ⟨kP_blind _, fun U hU hW => ⟨rfl, by rw [hU], by rw [hU]; exact pl_last hP, hC.go hW⟩⟩ rfl rfl hl.1 rfl (lv_room (Nat.le_of_ble_eq_true rfl)) dX8_init_60 ⟨(Nat.le_of_ble_eq_true rfl), (Nat.le_of_ble_eq_true rfl)⟩) hP hD hS hA (fun a60 H locs e60 hP1 hD1 hS => ?_)
  clear hP hD
  subst e60
  have hP := hP1
  have hD := hD1
  clear hP1 hD1
  have hP : va_P D am_cl ((h0, .inr (8, [.ref q8, .int (Int32.ofInt 0), .ref (a23 0), .ref (a42 0), .null, .null, .null, .null, .int (Int32.ofInt 0), .null, .null, .null, .int (Int32.ofInt 0), .null, .int (Int32.ofInt 0)])) :: (X4 ++ kW_2 cT (a57 0) a60)) H := hP
  have hD : va_D (fr0 h0 s.heap.size) ((h0, .inr (8, [.ref q8, .int (Int32.ofInt 0), .ref (a23 0), .ref (a42 0), .null, .null, .null, .null, .int (Int32.ofInt 0), .null, .null, .null, .int (Int32.ofInt 0), .null, .int (Int32.ofInt 0)])) :: (X4 ++ kW_2 cT (a57 0) a60)) := hD
  generalize eX5 : X4 ++ kW_2 cT (a57 0) a60 = X5 at hP hD
  refine va_putF (D := D) (ci := 8) (v := .ref (a60 0)) (ty := .object "FortyLetters$Play") (C := RX8) (T := TX8) (N := 15) hx hb hts am_ws_8 tyX8 tyX8_ok nmX8 hown hK hP hD hS 0 rfl rfl 4 (by decide) (hts _ (tb_2 (n := 146) rfl rfl)) (fun _ h9 => h9) rfl hin rfl (tyX8_ok 4 (by decide)) rfl rfl (Nat.le_of_ble_eq_true rfl) dX8_init_63 (fun H locs hP hD hS => ?_)
  have hP : va_P D am_cl ((h0, .inr (8, [.ref q8, .int (Int32.ofInt 0), .ref (a23 0), .ref (a42 0), .ref (a60 0), .null, .null, .null, .int (Int32.ofInt 0), .null, .null, .null, .int (Int32.ofInt 0), .null, .int (Int32.ofInt 0)])) :: X5) H := hP
  have hD : va_D (fr0 h0 s.heap.size) ((h0, .inr (8, [.ref q8, .int (Int32.ofInt 0), .ref (a23 0), .ref (a42 0), .ref (a60 0), .null, .null, .null, .int (Int32.ofInt 0), .null, .null, .null, .int (Int32.ofInt 0), .null, .int (Int32.ofInt 0)])) :: X5) := hD
  refine lv_aload_n hx hb dX8_init_66 rfl (lv_at hl 0 rfl) ?_
  refine va_new (ci := 2) (fs := [.null, .null, .int (Int32.ofInt 0)]) (C := RX2) (T := TX2) (N := 3) hx hb hts am_ws_2 tyX2 tyX2_ok hown (hts _ (tb_1 (n := 229) rfl rfl)) (hts _ (tb_1 (n := 230) rfl rfl)) (hts _ (tb_1 (n := 9) rfl rfl)) hK hP hD hS hA rfl (fun j hj => by rcases (show j = 0 ∨ j = 1 ∨ j = 2 by omega) with rfl | rfl | rfl <;> rfl) (Nat.le_of_ble_eq_true rfl) (Nat.le_of_ble_eq_true rfl) dX8_init_67 (fun q67 H hP hD hS => ?_)
  have hP : va_P D am_cl (((h0, .inr (8, [.ref q8, .int (Int32.ofInt 0), .ref (a23 0), .ref (a42 0), .ref (a60 0), .null, .null, .null, .int (Int32.ofInt 0), .null, .null, .null, .int (Int32.ofInt 0), .null, .int (Int32.ofInt 0)])) :: X5) ++ [(q67, .inr (2, [.null, .null, .int (Int32.ofInt 0)]))]) H := hP
  have hD : va_D (fr0 h0 s.heap.size) (((h0, .inr (8, [.ref q8, .int (Int32.ofInt 0), .ref (a23 0), .ref (a42 0), .ref (a60 0), .null, .null, .null, .int (Int32.ofInt 0), .null, .null, .null, .int (Int32.ofInt 0), .null, .int (Int32.ofInt 0)])) :: X5) ++ [(q67, .inr (2, [.null, .null, .int (Int32.ofInt 0)]))]) := hD
  refine lv_dup hx hb dX8_init_70 rfl ?_
  refine lv_aload_n hx hb dX8_init_71 rfl (lv_at hl 0 rfl) ?_
  refine va_get (D := D) (ci := 8) (v := .ref (a23 0)) (C := RX8) (T := TX8) (N := 15) hx hb hts am_ws_8 hown hK hP 0 rfl rfl 2 (by decide) (hts _ (tb_2 (n := 144) rfl rfl)) (fun _ h9 => h9) rfl dX8_init_72 ?_
  refine nw_call (Wf := kW_2 cT (a23 0)) (va_runI (As := [.ref (a23 0)]) (rest := [.ref q67, .ref h0]) ⟨hx, hb, hml, hown, hts⟩ (kn_2 l cT D q67 H.size (a23 0)) ⟨callB_of 1 hts (js_goodIn (tb_1 (n := 233) rfl rfl)) rfl rfl rfl (hts _ (tb_1 (n := 9) rfl rfl)) (hts _ (tb_1 (n := 231) rfl rfl)) ⟨by decide +kernel, by decide +kernel, by decide +kernel⟩ ⟨(Nat.le_of_ble_eq_true rfl), (Nat.le_of_ble_eq_true rfl)⟩, rfl, hts _ (tb_1 (n := 232) rfl rfl)⟩ ⟨kP_blind _, fun U hU hW => ⟨rfl, by rw [hU], by rw [hU]; exact pl_last hP, hC.go hW⟩⟩ rfl rfl hl.1 rfl (lv_room (Nat.le_of_ble_eq_true rfl)) dX8_init_75 ⟨(Nat.le_of_ble_eq_true rfl), (Nat.le_of_ble_eq_true rfl)⟩) hP hD hS hA (fun a75 H locs e75 hP1 hD1 hS => ?_)
  clear hP hD
  subst e75
  have hP := hP1
  have hD := hD1
  clear hP1 hD1
  have hP : va_P D am_cl ((h0, .inr (8, [.ref q8, .int (Int32.ofInt 0), .ref (a23 0), .ref (a42 0), .ref (a60 0), .null, .null, .null, .int (Int32.ofInt 0), .null, .null, .null, .int (Int32.ofInt 0), .null, .int (Int32.ofInt 0)])) :: (X5 ++ kW_2 cT (a23 0) a75)) H := hP
  have hD : va_D (fr0 h0 s.heap.size) ((h0, .inr (8, [.ref q8, .int (Int32.ofInt 0), .ref (a23 0), .ref (a42 0), .ref (a60 0), .null, .null, .null, .int (Int32.ofInt 0), .null, .null, .null, .int (Int32.ofInt 0), .null, .int (Int32.ofInt 0)])) :: (X5 ++ kW_2 cT (a23 0) a75)) := hD
  generalize eX6 : X5 ++ kW_2 cT (a23 0) a75 = X6 at hP hD
  refine va_putF (D := D) (ci := 8) (v := .ref (a75 0)) (ty := .object "FortyLetters$Play") (C := RX8) (T := TX8) (N := 15) hx hb hts am_ws_8 tyX8 tyX8_ok nmX8 hown hK hP hD hS 0 rfl rfl 5 (by decide) (hts _ (tb_2 (n := 147) rfl rfl)) (fun _ h9 => h9) rfl hin rfl (tyX8_ok 5 (by decide)) rfl rfl (Nat.le_of_ble_eq_true rfl) dX8_init_78 (fun H locs hP hD hS => ?_)
  have hP : va_P D am_cl ((h0, .inr (8, [.ref q8, .int (Int32.ofInt 0), .ref (a23 0), .ref (a42 0), .ref (a60 0), .ref (a75 0), .null, .null, .int (Int32.ofInt 0), .null, .null, .null, .int (Int32.ofInt 0), .null, .int (Int32.ofInt 0)])) :: X6) H := hP
  have hD : va_D (fr0 h0 s.heap.size) ((h0, .inr (8, [.ref q8, .int (Int32.ofInt 0), .ref (a23 0), .ref (a42 0), .ref (a60 0), .ref (a75 0), .null, .null, .int (Int32.ofInt 0), .null, .null, .null, .int (Int32.ofInt 0), .null, .int (Int32.ofInt 0)])) :: X6) := hD
  refine lv_aload_n hx hb dX8_init_81 rfl (lv_at hl 0 rfl) ?_
  refine va_new (ci := 1) (fs := [.int (Int32.ofInt 0), .int (Int32.ofInt 0), .null, .int (Int32.ofInt 0)]) (C := RX1) (T := TX1) (N := 4) hx hb hts am_ws_1 tyX1 tyX1_ok hown (hts _ (tb_2 (n := 11) rfl rfl)) (hts _ (tb_2 (n := 12) rfl rfl)) (hts _ (tb_1 (n := 10) rfl rfl)) hK hP hD hS hA rfl (fun j hj => by rcases (show j = 0 ∨ j = 1 ∨ j = 2 ∨ j = 3 by omega) with rfl | rfl | rfl | rfl <;> rfl) (Nat.le_of_ble_eq_true rfl) (Nat.le_of_ble_eq_true rfl) dX8_init_82 (fun q82 H hP hD hS => ?_)
  have hP : va_P D am_cl (((h0, .inr (8, [.ref q8, .int (Int32.ofInt 0), .ref (a23 0), .ref (a42 0), .ref (a60 0), .ref (a75 0), .null, .null, .int (Int32.ofInt 0), .null, .null, .null, .int (Int32.ofInt 0), .null, .int (Int32.ofInt 0)])) :: X6) ++ [(q82, .inr (1, [.int (Int32.ofInt 0), .int (Int32.ofInt 0), .null, .int (Int32.ofInt 0)]))]) H := hP
  have hD : va_D (fr0 h0 s.heap.size) (((h0, .inr (8, [.ref q8, .int (Int32.ofInt 0), .ref (a23 0), .ref (a42 0), .ref (a60 0), .ref (a75 0), .null, .null, .int (Int32.ofInt 0), .null, .null, .null, .int (Int32.ofInt 0), .null, .int (Int32.ofInt 0)])) :: X6) ++ [(q82, .inr (1, [.int (Int32.ofInt 0), .int (Int32.ofInt 0), .null, .int (Int32.ofInt 0)]))]) := hD
  refine lv_dup hx hb dX8_init_85 rfl ?_
  refine nw_call (Wf := kW_1 cT) (va_runIN (As := []) (rest := [.ref q82, .ref h0]) ⟨hx, hb, hml, hown, hts⟩ (kn_1 l cT D q82 H.size) ⟨va_cnB 0 hts (js_goodIn (tb_2 (n := 15) rfl rfl)) rfl rfl rfl hC.2.2.2.2.2.1 (hts _ (tb_1 (n := 10) rfl rfl)) ⟨by decide +kernel, by decide +kernel, by decide +kernel⟩ ⟨(Nat.le_of_ble_eq_true rfl), (Nat.le_of_ble_eq_true rfl)⟩, rfl, hts _ (tb_2 (n := 14) rfl rfl)⟩ ⟨kP_blind _, fun U hU hW => ⟨rfl, by rw [hU], by rw [hU]; exact pl_last hP, hC.go hW⟩⟩ rfl rfl hl.1 rfl (lv_room (Nat.le_of_ble_eq_true rfl)) dX8_init_86 ⟨(Nat.le_of_ble_eq_true rfl), (Nat.le_of_ble_eq_true rfl)⟩) hP hD hS hA (fun a86 H locs e86 hP1 hD1 hS => ?_)
  clear hP hD
  subst e86
  have hP := hP1
  have hD := hD1
  clear hP1 hD1
  have hP : va_P D am_cl ((h0, .inr (8, [.ref q8, .int (Int32.ofInt 0), .ref (a23 0), .ref (a42 0), .ref (a60 0), .ref (a75 0), .null, .null, .int (Int32.ofInt 0), .null, .null, .null, .int (Int32.ofInt 0), .null, .int (Int32.ofInt 0)])) :: (X6 ++ kW_1 cT a86)) H := hP
  have hD : va_D (fr0 h0 s.heap.size) ((h0, .inr (8, [.ref q8, .int (Int32.ofInt 0), .ref (a23 0), .ref (a42 0), .ref (a60 0), .ref (a75 0), .null, .null, .int (Int32.ofInt 0), .null, .null, .null, .int (Int32.ofInt 0), .null, .int (Int32.ofInt 0)])) :: (X6 ++ kW_1 cT a86)) := hD
  generalize eX7 : X6 ++ kW_1 cT a86 = X7 at hP hD
  refine va_putF (D := D) (ci := 8) (v := .ref (a86 0)) (ty := .object "FortyLetters$History") (C := RX8) (T := TX8) (N := 15) hx hb hts am_ws_8 tyX8 tyX8_ok nmX8 hown hK hP hD hS 0 rfl rfl 6 (by decide) (hts _ (tb_2 (n := 148) rfl rfl)) (fun _ h9 => h9) rfl hin rfl (tyX8_ok 6 (by decide)) rfl rfl (Nat.le_of_ble_eq_true rfl) dX8_init_89 (fun H locs hP hD hS => ?_)
  have hP : va_P D am_cl ((h0, .inr (8, [.ref q8, .int (Int32.ofInt 0), .ref (a23 0), .ref (a42 0), .ref (a60 0), .ref (a75 0), .ref (a86 0), .null, .int (Int32.ofInt 0), .null, .null, .null, .int (Int32.ofInt 0), .null, .int (Int32.ofInt 0)])) :: X7) H := hP
  have hD : va_D (fr0 h0 s.heap.size) ((h0, .inr (8, [.ref q8, .int (Int32.ofInt 0), .ref (a23 0), .ref (a42 0), .ref (a60 0), .ref (a75 0), .ref (a86 0), .null, .int (Int32.ofInt 0), .null, .null, .null, .int (Int32.ofInt 0), .null, .int (Int32.ofInt 0)])) :: X7) := hD
  refine lv_aload_n hx hb dX8_init_92 rfl (lv_at hl 0 rfl) ?_
  refine lv_iconst (v := Int32.ofInt 3) hx hb dX8_init_93 rfl ?_
  refine lv_bipush (v := Int32.ofInt 49) hx hb dX8_init_94 (by decide) ?_
  refine nw_mna (ty := .int) (t0 := 4) (t1 := 0) (N' := 3) (K' := 49) (z := (49, .inl (fun _ => Int32.ofInt 0))) hx hb hown (hts _ (tb_2 (n := 33) rfl rfl)) hC.2.1 (hts (.arrayClass .int) (tb_1 (n := 62) rfl rfl)) (fun _ h => h) hK rfl rfl hP hD hS hA (by decide) (by decide) rfl rfl (Nat.le_of_ble_eq_true rfl) (Nat.le_of_ble_eq_true rfl) (Nat.le_of_ble_eq_true rfl) rfl rfl (Nat.le_of_ble_eq_true rfl) (Nat.le_of_ble_eq_true rfl) (fun c => (za_int 49 c).symm) dX8_init_96 (fun q96 w96 H hP hD hS => ?_)
  have hP : va_P D am_cl ((h0, .inr (8, [.ref q8, .int (Int32.ofInt 0), .ref (a23 0), .ref (a42 0), .ref (a60 0), .ref (a75 0), .ref (a86 0), .null, .int (Int32.ofInt 0), .null, .null, .null, .int (Int32.ofInt 0), .null, .int (Int32.ofInt 0)])) :: (X7 ++ ((q96, .inl (cT 4, 3, .inr (.inr (.inr (.inr (fun j => some (((List.range 3).map w96).getD j 0))))))) :: (List.range 3).map (fun i => (w96 i, .inl (cT 0, 49, .inl (fun _ => Int32.ofInt 0))))))) H := hP
  have hD : va_D (fr0 h0 s.heap.size) ((h0, .inr (8, [.ref q8, .int (Int32.ofInt 0), .ref (a23 0), .ref (a42 0), .ref (a60 0), .ref (a75 0), .ref (a86 0), .null, .int (Int32.ofInt 0), .null, .null, .null, .int (Int32.ofInt 0), .null, .int (Int32.ofInt 0)])) :: (X7 ++ ((q96, .inl (cT 4, 3, .inr (.inr (.inr (.inr (fun j => some (((List.range 3).map w96).getD j 0))))))) :: (List.range 3).map (fun i => (w96 i, .inl (cT 0, 49, .inl (fun _ => Int32.ofInt 0))))))) := hD
  generalize eX8 : X7 ++ ((q96, .inl (cT 4, 3, .inr (.inr (.inr (.inr (fun j => some (((List.range 3).map w96).getD j 0))))))) :: (List.range 3).map (fun i => (w96 i, .inl (cT 0, 49, .inl (fun _ => Int32.ofInt 0))))) = X8 at hP hD
  refine va_putF (D := D) (ci := 8) (v := .ref q96) (ty := .array (.array .int)) (C := RX8) (T := TX8) (N := 15) hx hb hts am_ws_8 tyX8 tyX8_ok nmX8 hown hK hP hD hS 0 rfl rfl 7 (by decide) (hts _ (tb_2 (n := 149) rfl rfl)) (fun _ h9 => h9) rfl hin rfl (tyX8_ok 7 (by decide)) rfl rfl (Nat.le_of_ble_eq_true rfl) dX8_init_100 (fun H locs hP hD hS => ?_)
  have hP : va_P D am_cl ((h0, .inr (8, [.ref q8, .int (Int32.ofInt 0), .ref (a23 0), .ref (a42 0), .ref (a60 0), .ref (a75 0), .ref (a86 0), .ref q96, .int (Int32.ofInt 0), .null, .null, .null, .int (Int32.ofInt 0), .null, .int (Int32.ofInt 0)])) :: X8) H := hP
  have hD : va_D (fr0 h0 s.heap.size) ((h0, .inr (8, [.ref q8, .int (Int32.ofInt 0), .ref (a23 0), .ref (a42 0), .ref (a60 0), .ref (a75 0), .ref (a86 0), .ref q96, .int (Int32.ofInt 0), .null, .null, .null, .int (Int32.ofInt 0), .null, .int (Int32.ofInt 0)])) :: X8) := hD
  refine lv_aload_n hx hb dX8_init_103 rfl (lv_at hl 0 rfl) ?_
  refine lv_iconst (v := Int32.ofInt 0) hx hb dX8_init_104 rfl ?_
  refine va_put (D := D) (ci := 8) (v := .int (Int32.ofInt 0)) (ty := .int) (C := RX8) (T := TX8) (N := 15) hx hb hts am_ws_8 tyX8 tyX8_ok nmX8 hown hK hP hD hS 0 rfl rfl 8 (by decide) (hts _ (tb_2 (n := 150) rfl rfl)) (fun _ h9 => h9) rfl (tyX8_ok 8 (by decide)) rfl rfl (Nat.le_of_ble_eq_true rfl) dX8_init_105 (fun H locs hP hD hS => ?_)
  have hP : va_P D am_cl ((h0, .inr (8, [.ref q8, .int (Int32.ofInt 0), .ref (a23 0), .ref (a42 0), .ref (a60 0), .ref (a75 0), .ref (a86 0), .ref q96, .int (Int32.ofInt 0), .null, .null, .null, .int (Int32.ofInt 0), .null, .int (Int32.ofInt 0)])) :: X8) H := hP
  have hD : va_D (fr0 h0 s.heap.size) ((h0, .inr (8, [.ref q8, .int (Int32.ofInt 0), .ref (a23 0), .ref (a42 0), .ref (a60 0), .ref (a75 0), .ref (a86 0), .ref q96, .int (Int32.ofInt 0), .null, .null, .null, .int (Int32.ofInt 0), .null, .int (Int32.ofInt 0)])) :: X8) := hD
  refine lv_aload_n hx hb dX8_init_108 rfl (lv_at hl 0 rfl) ?_
  refine va_new (ci := 3) (fs := [.null, .null, .null, .null, .int (Int32.ofInt 0), .int (Int32.ofInt 0)]) (C := RX3) (T := TX3) (N := 6) hx hb hts am_ws_3 tyX3 tyX3_ok hown (hts _ (tb_2 (n := 34) rfl rfl)) (hts _ (tb_2 (n := 35) rfl rfl)) (hts _ (tb_1 (n := 11) rfl rfl)) hK hP hD hS hA rfl (fun j hj => by rcases (show j = 0 ∨ j = 1 ∨ j = 2 ∨ j = 3 ∨ j = 4 ∨ j = 5 by omega) with rfl | rfl | rfl | rfl | rfl | rfl <;> rfl) (Nat.le_of_ble_eq_true rfl) (Nat.le_of_ble_eq_true rfl) dX8_init_109 (fun q109 H hP hD hS => ?_)
  have hP : va_P D am_cl (((h0, .inr (8, [.ref q8, .int (Int32.ofInt 0), .ref (a23 0), .ref (a42 0), .ref (a60 0), .ref (a75 0), .ref (a86 0), .ref q96, .int (Int32.ofInt 0), .null, .null, .null, .int (Int32.ofInt 0), .null, .int (Int32.ofInt 0)])) :: X8) ++ [(q109, .inr (3, [.null, .null, .null, .null, .int (Int32.ofInt 0), .int (Int32.ofInt 0)]))]) H := hP
  have hD : va_D (fr0 h0 s.heap.size) (((h0, .inr (8, [.ref q8, .int (Int32.ofInt 0), .ref (a23 0), .ref (a42 0), .ref (a60 0), .ref (a75 0), .ref (a86 0), .ref q96, .int (Int32.ofInt 0), .null, .null, .null, .int (Int32.ofInt 0), .null, .int (Int32.ofInt 0)])) :: X8) ++ [(q109, .inr (3, [.null, .null, .null, .null, .int (Int32.ofInt 0), .int (Int32.ofInt 0)]))]) := hD
  refine lv_dup hx hb dX8_init_112 rfl ?_
  refine lv_aload_n hx hb dX8_init_113 rfl (lv_at hl 0 rfl) ?_
  refine va_get (D := D) (ci := 8) (v := .ref (a60 0)) (C := RX8) (T := TX8) (N := 15) hx hb hts am_ws_8 hown hK hP 0 rfl rfl 4 (by decide) (hts _ (tb_2 (n := 146) rfl rfl)) (fun _ h9 => h9) rfl dX8_init_114 ?_
  refine nw_call (Wf := kW_3 cT (a60 0)) (va_runI (As := [.ref (a60 0)]) (rest := [.ref q109, .ref h0]) ⟨hx, hb, hml, hown, hts⟩ (kn_3 l cT D q109 H.size (a60 0)) ⟨callB_of 1 hts (js_goodIn (tb_2 (n := 38) rfl rfl)) rfl rfl rfl (hts _ (tb_1 (n := 11) rfl rfl)) (hts _ (tb_2 (n := 36) rfl rfl)) ⟨by decide +kernel, by decide +kernel, by decide +kernel⟩ ⟨(Nat.le_of_ble_eq_true rfl), (Nat.le_of_ble_eq_true rfl)⟩, rfl, hts _ (tb_2 (n := 37) rfl rfl)⟩ ⟨kP_blind _, fun U hU hW => ⟨rfl, by rw [hU], by rw [hU]; exact pl_last hP, hC.go hW⟩⟩ rfl rfl hl.1 rfl (lv_room (Nat.le_of_ble_eq_true rfl)) dX8_init_117 ⟨(Nat.le_of_ble_eq_true rfl), (Nat.le_of_ble_eq_true rfl)⟩) hP hD hS hA (fun a117 H locs e117 hP1 hD1 hS => ?_)
  clear hP hD
  subst e117
  have hP := hP1
  have hD := hD1
  clear hP1 hD1
  have hP : va_P D am_cl ((h0, .inr (8, [.ref q8, .int (Int32.ofInt 0), .ref (a23 0), .ref (a42 0), .ref (a60 0), .ref (a75 0), .ref (a86 0), .ref q96, .int (Int32.ofInt 0), .null, .null, .null, .int (Int32.ofInt 0), .null, .int (Int32.ofInt 0)])) :: (X8 ++ kW_3 cT (a60 0) a117)) H := hP
  have hD : va_D (fr0 h0 s.heap.size) ((h0, .inr (8, [.ref q8, .int (Int32.ofInt 0), .ref (a23 0), .ref (a42 0), .ref (a60 0), .ref (a75 0), .ref (a86 0), .ref q96, .int (Int32.ofInt 0), .null, .null, .null, .int (Int32.ofInt 0), .null, .int (Int32.ofInt 0)])) :: (X8 ++ kW_3 cT (a60 0) a117)) := hD
  generalize eX9 : X8 ++ kW_3 cT (a60 0) a117 = X9 at hP hD
  refine va_putF (D := D) (ci := 8) (v := .ref (a117 0)) (ty := .object "FortyLetters$Prospect") (C := RX8) (T := TX8) (N := 15) hx hb hts am_ws_8 tyX8 tyX8_ok nmX8 hown hK hP hD hS 0 rfl rfl 9 (by decide) (hts _ (tb_2 (n := 151) rfl rfl)) (fun _ h9 => h9) rfl hin rfl (tyX8_ok 9 (by decide)) rfl rfl (Nat.le_of_ble_eq_true rfl) dX8_init_120 (fun H locs hP hD hS => ?_)
  have hP : va_P D am_cl ((h0, .inr (8, [.ref q8, .int (Int32.ofInt 0), .ref (a23 0), .ref (a42 0), .ref (a60 0), .ref (a75 0), .ref (a86 0), .ref q96, .int (Int32.ofInt 0), .ref (a117 0), .null, .null, .int (Int32.ofInt 0), .null, .int (Int32.ofInt 0)])) :: X9) H := hP
  have hD : va_D (fr0 h0 s.heap.size) ((h0, .inr (8, [.ref q8, .int (Int32.ofInt 0), .ref (a23 0), .ref (a42 0), .ref (a60 0), .ref (a75 0), .ref (a86 0), .ref q96, .int (Int32.ofInt 0), .ref (a117 0), .null, .null, .int (Int32.ofInt 0), .null, .int (Int32.ofInt 0)])) :: X9) := hD
  refine lv_aload_n hx hb dX8_init_123 rfl (lv_at hl 0 rfl) ?_
  refine va_new (ci := 5) (fs := [.null, .null, .null, .null, .int (Int32.ofInt 0)]) (C := RX5) (T := TX5) (N := 5) hx hb hts am_ws_5 tyX5 tyX5_ok hown (hts _ (tb_2 (n := 60) rfl rfl)) (hts _ (tb_2 (n := 61) rfl rfl)) (hts _ (tb_1 (n := 12) rfl rfl)) hK hP hD hS hA rfl (fun j hj => by rcases (show j = 0 ∨ j = 1 ∨ j = 2 ∨ j = 3 ∨ j = 4 by omega) with rfl | rfl | rfl | rfl | rfl <;> rfl) (Nat.le_of_ble_eq_true rfl) (Nat.le_of_ble_eq_true rfl) dX8_init_124 (fun q124 H hP hD hS => ?_)
  have hP : va_P D am_cl (((h0, .inr (8, [.ref q8, .int (Int32.ofInt 0), .ref (a23 0), .ref (a42 0), .ref (a60 0), .ref (a75 0), .ref (a86 0), .ref q96, .int (Int32.ofInt 0), .ref (a117 0), .null, .null, .int (Int32.ofInt 0), .null, .int (Int32.ofInt 0)])) :: X9) ++ [(q124, .inr (5, [.null, .null, .null, .null, .int (Int32.ofInt 0)]))]) H := hP
  have hD : va_D (fr0 h0 s.heap.size) (((h0, .inr (8, [.ref q8, .int (Int32.ofInt 0), .ref (a23 0), .ref (a42 0), .ref (a60 0), .ref (a75 0), .ref (a86 0), .ref q96, .int (Int32.ofInt 0), .ref (a117 0), .null, .null, .int (Int32.ofInt 0), .null, .int (Int32.ofInt 0)])) :: X9) ++ [(q124, .inr (5, [.null, .null, .null, .null, .int (Int32.ofInt 0)]))]) := hD
  refine lv_dup hx hb dX8_init_127 rfl ?_
  refine lv_aload_n hx hb dX8_init_128 rfl (lv_at hl 0 rfl) ?_
  refine va_get (D := D) (ci := 8) (v := .ref (a60 0)) (C := RX8) (T := TX8) (N := 15) hx hb hts am_ws_8 hown hK hP 0 rfl rfl 4 (by decide) (hts _ (tb_2 (n := 146) rfl rfl)) (fun _ h9 => h9) rfl dX8_init_129 ?_
  refine nw_call (Wf := kW_5 cT (a60 0)) (va_runI (As := [.ref (a60 0)]) (rest := [.ref q124, .ref h0]) ⟨hx, hb, hml, hown, hts⟩ (kn_5 l cT D q124 H.size (a60 0)) ⟨callB_of 1 hts (js_goodIn (tb_2 (n := 64) rfl rfl)) rfl rfl rfl (hts _ (tb_1 (n := 12) rfl rfl)) (hts _ (tb_2 (n := 62) rfl rfl)) ⟨by decide +kernel, by decide +kernel, by decide +kernel⟩ ⟨(Nat.le_of_ble_eq_true rfl), (Nat.le_of_ble_eq_true rfl)⟩, rfl, hts _ (tb_2 (n := 63) rfl rfl)⟩ ⟨kP_blind _, fun U hU hW => ⟨rfl, by rw [hU], by rw [hU]; exact pl_last hP, hC.go hW⟩⟩ rfl rfl hl.1 rfl (lv_room (Nat.le_of_ble_eq_true rfl)) dX8_init_132 ⟨(Nat.le_of_ble_eq_true rfl), (Nat.le_of_ble_eq_true rfl)⟩) hP hD hS hA (fun a132 H locs e132 hP1 hD1 hS => ?_)
  clear hP hD
  subst e132
  have hP := hP1
  have hD := hD1
  clear hP1 hD1
  have hP : va_P D am_cl ((h0, .inr (8, [.ref q8, .int (Int32.ofInt 0), .ref (a23 0), .ref (a42 0), .ref (a60 0), .ref (a75 0), .ref (a86 0), .ref q96, .int (Int32.ofInt 0), .ref (a117 0), .null, .null, .int (Int32.ofInt 0), .null, .int (Int32.ofInt 0)])) :: (X9 ++ kW_5 cT (a60 0) a132)) H := hP
  have hD : va_D (fr0 h0 s.heap.size) ((h0, .inr (8, [.ref q8, .int (Int32.ofInt 0), .ref (a23 0), .ref (a42 0), .ref (a60 0), .ref (a75 0), .ref (a86 0), .ref q96, .int (Int32.ofInt 0), .ref (a117 0), .null, .null, .int (Int32.ofInt 0), .null, .int (Int32.ofInt 0)])) :: (X9 ++ kW_5 cT (a60 0) a132)) := hD
  generalize eX10 : X9 ++ kW_5 cT (a60 0) a132 = X10 at hP hD
  refine va_putF (D := D) (ci := 8) (v := .ref (a132 0)) (ty := .object "FortyLetters$Rows") (C := RX8) (T := TX8) (N := 15) hx hb hts am_ws_8 tyX8 tyX8_ok nmX8 hown hK hP hD hS 0 rfl rfl 10 (by decide) (hts _ (tb_2 (n := 152) rfl rfl)) (fun _ h9 => h9) rfl hin rfl (tyX8_ok 10 (by decide)) rfl rfl (Nat.le_of_ble_eq_true rfl) dX8_init_135 (fun H locs hP hD hS => ?_)
  have hP : va_P D am_cl ((h0, .inr (8, [.ref q8, .int (Int32.ofInt 0), .ref (a23 0), .ref (a42 0), .ref (a60 0), .ref (a75 0), .ref (a86 0), .ref q96, .int (Int32.ofInt 0), .ref (a117 0), .ref (a132 0), .null, .int (Int32.ofInt 0), .null, .int (Int32.ofInt 0)])) :: X10) H := hP
  have hD : va_D (fr0 h0 s.heap.size) ((h0, .inr (8, [.ref q8, .int (Int32.ofInt 0), .ref (a23 0), .ref (a42 0), .ref (a60 0), .ref (a75 0), .ref (a86 0), .ref q96, .int (Int32.ofInt 0), .ref (a117 0), .ref (a132 0), .null, .int (Int32.ofInt 0), .null, .int (Int32.ofInt 0)])) :: X10) := hD
  refine lv_aload_n hx hb dX8_init_138 rfl (lv_at hl 0 rfl) ?_
  refine va_new (ci := 6) (fs := [.int (Int32.ofInt 0), .null, .null, .null, .null, .null, .null]) (C := RX6) (T := TX6) (N := 7) hx hb hts am_ws_6 tyX6 tyX6_ok hown (hts _ (tb_2 (n := 83) rfl rfl)) (hts _ (tb_2 (n := 84) rfl rfl)) (hts _ (tb_1 (n := 13) rfl rfl)) hK hP hD hS hA rfl (fun j hj => by rcases (show j = 0 ∨ j = 1 ∨ j = 2 ∨ j = 3 ∨ j = 4 ∨ j = 5 ∨ j = 6 by omega) with rfl | rfl | rfl | rfl | rfl | rfl | rfl <;> rfl) (Nat.le_of_ble_eq_true rfl) (Nat.le_of_ble_eq_true rfl) dX8_init_139 (fun q139 H hP hD hS => ?_)
  have hP : va_P D am_cl (((h0, .inr (8, [.ref q8, .int (Int32.ofInt 0), .ref (a23 0), .ref (a42 0), .ref (a60 0), .ref (a75 0), .ref (a86 0), .ref q96, .int (Int32.ofInt 0), .ref (a117 0), .ref (a132 0), .null, .int (Int32.ofInt 0), .null, .int (Int32.ofInt 0)])) :: X10) ++ [(q139, .inr (6, [.int (Int32.ofInt 0), .null, .null, .null, .null, .null, .null]))]) H := hP
  have hD : va_D (fr0 h0 s.heap.size) (((h0, .inr (8, [.ref q8, .int (Int32.ofInt 0), .ref (a23 0), .ref (a42 0), .ref (a60 0), .ref (a75 0), .ref (a86 0), .ref q96, .int (Int32.ofInt 0), .ref (a117 0), .ref (a132 0), .null, .int (Int32.ofInt 0), .null, .int (Int32.ofInt 0)])) :: X10) ++ [(q139, .inr (6, [.int (Int32.ofInt 0), .null, .null, .null, .null, .null, .null]))]) := hD
  refine lv_dup hx hb dX8_init_142 rfl ?_
  refine nw_call (Wf := kW_6 cT) (va_runIN (As := []) (rest := [.ref q139, .ref h0]) ⟨hx, hb, hml, hown, hts⟩ (kn_6 l cT D q139 H.size) ⟨va_cnB 0 hts (js_goodIn (tb_2 (n := 87) rfl rfl)) rfl rfl rfl hC.2.2.2.2.2.2 (hts _ (tb_1 (n := 13) rfl rfl)) ⟨by decide +kernel, by decide +kernel, by decide +kernel⟩ ⟨(Nat.le_of_ble_eq_true rfl), (Nat.le_of_ble_eq_true rfl)⟩, rfl, hts _ (tb_2 (n := 86) rfl rfl)⟩ ⟨kP_blind _, fun U hU hW => ⟨rfl, by rw [hU], by rw [hU]; exact pl_last hP, hC.go hW⟩⟩ rfl rfl hl.1 rfl (lv_room (Nat.le_of_ble_eq_true rfl)) dX8_init_143 ⟨(Nat.le_of_ble_eq_true rfl), (Nat.le_of_ble_eq_true rfl)⟩) hP hD hS hA (fun a143 H locs e143 hP1 hD1 hS => ?_)
  clear hP hD
  subst e143
  have hP := hP1
  have hD := hD1
  clear hP1 hD1
  have hP : va_P D am_cl ((h0, .inr (8, [.ref q8, .int (Int32.ofInt 0), .ref (a23 0), .ref (a42 0), .ref (a60 0), .ref (a75 0), .ref (a86 0), .ref q96, .int (Int32.ofInt 0), .ref (a117 0), .ref (a132 0), .null, .int (Int32.ofInt 0), .null, .int (Int32.ofInt 0)])) :: (X10 ++ kW_6 cT a143)) H := hP
  have hD : va_D (fr0 h0 s.heap.size) ((h0, .inr (8, [.ref q8, .int (Int32.ofInt 0), .ref (a23 0), .ref (a42 0), .ref (a60 0), .ref (a75 0), .ref (a86 0), .ref q96, .int (Int32.ofInt 0), .ref (a117 0), .ref (a132 0), .null, .int (Int32.ofInt 0), .null, .int (Int32.ofInt 0)])) :: (X10 ++ kW_6 cT a143)) := hD
  generalize eX11 : X10 ++ kW_6 cT a143 = X11 at hP hD
  refine va_putF (D := D) (ci := 8) (v := .ref (a143 0)) (ty := .object "FortyLetters$Signs") (C := RX8) (T := TX8) (N := 15) hx hb hts am_ws_8 tyX8 tyX8_ok nmX8 hown hK hP hD hS 0 rfl rfl 11 (by decide) (hts _ (tb_2 (n := 153) rfl rfl)) (fun _ h9 => h9) rfl hin rfl (tyX8_ok 11 (by decide)) rfl rfl (Nat.le_of_ble_eq_true rfl) dX8_init_146 (fun H locs hP hD hS => ?_)
  have hP : va_P D am_cl ((h0, .inr (8, [.ref q8, .int (Int32.ofInt 0), .ref (a23 0), .ref (a42 0), .ref (a60 0), .ref (a75 0), .ref (a86 0), .ref q96, .int (Int32.ofInt 0), .ref (a117 0), .ref (a132 0), .ref (a143 0), .int (Int32.ofInt 0), .null, .int (Int32.ofInt 0)])) :: X11) H := hP
  have hD : va_D (fr0 h0 s.heap.size) ((h0, .inr (8, [.ref q8, .int (Int32.ofInt 0), .ref (a23 0), .ref (a42 0), .ref (a60 0), .ref (a75 0), .ref (a86 0), .ref q96, .int (Int32.ofInt 0), .ref (a117 0), .ref (a132 0), .ref (a143 0), .int (Int32.ofInt 0), .null, .int (Int32.ofInt 0)])) :: X11) := hD
  refine lv_aload_n hx hb dX8_init_149 rfl (lv_at hl 0 rfl) ?_
  refine lv_iconst (v := Int32.ofInt 0) hx hb dX8_init_150 rfl ?_
  refine va_put (D := D) (ci := 8) (v := .int (Int32.ofInt 0)) (ty := .int) (C := RX8) (T := TX8) (N := 15) hx hb hts am_ws_8 tyX8 tyX8_ok nmX8 hown hK hP hD hS 0 rfl rfl 12 (by decide) (hts _ (tb_2 (n := 154) rfl rfl)) (fun _ h9 => h9) rfl (tyX8_ok 12 (by decide)) rfl rfl (Nat.le_of_ble_eq_true rfl) dX8_init_151 (fun H locs hP hD hS => ?_)
  have hP : va_P D am_cl ((h0, .inr (8, [.ref q8, .int (Int32.ofInt 0), .ref (a23 0), .ref (a42 0), .ref (a60 0), .ref (a75 0), .ref (a86 0), .ref q96, .int (Int32.ofInt 0), .ref (a117 0), .ref (a132 0), .ref (a143 0), .int (Int32.ofInt 0), .null, .int (Int32.ofInt 0)])) :: X11) H := hP
  have hD : va_D (fr0 h0 s.heap.size) ((h0, .inr (8, [.ref q8, .int (Int32.ofInt 0), .ref (a23 0), .ref (a42 0), .ref (a60 0), .ref (a75 0), .ref (a86 0), .ref q96, .int (Int32.ofInt 0), .ref (a117 0), .ref (a132 0), .ref (a143 0), .int (Int32.ofInt 0), .null, .int (Int32.ofInt 0)])) :: X11) := hD
  refine lv_aload_n hx hb dX8_init_154 rfl (lv_at hl 0 rfl) ?_
  refine lv_bipush (v := Int32.ofInt 8) hx hb dX8_init_155 (by decide) ?_
  refine nw_arr (atype := .int) (ty := .int) (t0 := 0) (N' := 8) (a0 := (8, .inl (fun _ => Int32.ofInt 0))) hx hb (hts (.arrayClass .int) (tb_1 (n := 62) rfl rfl)) rfl (fun _ h => h) hK rfl hP hD hS hA (za_int 8) (by decide) rfl (Nat.le_of_ble_eq_true rfl) (Nat.le_of_ble_eq_true rfl) (Nat.le_of_ble_eq_true rfl) dX8_init_157 (fun q157 H hP hD hS => ?_)
  have hP : va_P D am_cl ((h0, .inr (8, [.ref q8, .int (Int32.ofInt 0), .ref (a23 0), .ref (a42 0), .ref (a60 0), .ref (a75 0), .ref (a86 0), .ref q96, .int (Int32.ofInt 0), .ref (a117 0), .ref (a132 0), .ref (a143 0), .int (Int32.ofInt 0), .null, .int (Int32.ofInt 0)])) :: (X11 ++ [(q157, .inl (cT 0, 8, .inl (fun _ => Int32.ofInt 0)))])) H := hP
  have hD : va_D (fr0 h0 s.heap.size) ((h0, .inr (8, [.ref q8, .int (Int32.ofInt 0), .ref (a23 0), .ref (a42 0), .ref (a60 0), .ref (a75 0), .ref (a86 0), .ref q96, .int (Int32.ofInt 0), .ref (a117 0), .ref (a132 0), .ref (a143 0), .int (Int32.ofInt 0), .null, .int (Int32.ofInt 0)])) :: (X11 ++ [(q157, .inl (cT 0, 8, .inl (fun _ => Int32.ofInt 0)))])) := hD
  generalize eX12 : X11 ++ [(q157, .inl (cT 0, 8, .inl (fun _ => Int32.ofInt 0)))] = X12 at hP hD
  refine va_putF (D := D) (ci := 8) (v := .ref q157) (ty := .array .int) (C := RX8) (T := TX8) (N := 15) hx hb hts am_ws_8 tyX8 tyX8_ok nmX8 hown hK hP hD hS 0 rfl rfl 13 (by decide) (hts _ (tb_2 (n := 155) rfl rfl)) (fun _ h9 => h9) rfl hin rfl (tyX8_ok 13 (by decide)) rfl rfl (Nat.le_of_ble_eq_true rfl) dX8_init_159 (fun H locs hP hD hS => ?_)
  have hP : va_P D am_cl ((h0, .inr (8, [.ref q8, .int (Int32.ofInt 0), .ref (a23 0), .ref (a42 0), .ref (a60 0), .ref (a75 0), .ref (a86 0), .ref q96, .int (Int32.ofInt 0), .ref (a117 0), .ref (a132 0), .ref (a143 0), .int (Int32.ofInt 0), .ref q157, .int (Int32.ofInt 0)])) :: X12) H := hP
  have hD : va_D (fr0 h0 s.heap.size) ((h0, .inr (8, [.ref q8, .int (Int32.ofInt 0), .ref (a23 0), .ref (a42 0), .ref (a60 0), .ref (a75 0), .ref (a86 0), .ref q96, .int (Int32.ofInt 0), .ref (a117 0), .ref (a132 0), .ref (a143 0), .int (Int32.ofInt 0), .ref q157, .int (Int32.ofInt 0)])) :: X12) := hD
  refine lv_aload_n hx hb dX8_init_162 rfl (lv_at hl 0 rfl) ?_
  refine lv_iconst (v := Int32.ofInt 0) hx hb dX8_init_163 rfl ?_
  refine va_put (D := D) (ci := 8) (v := .int (Int32.ofInt 0)) (ty := .int) (C := RX8) (T := TX8) (N := 15) hx hb hts am_ws_8 tyX8 tyX8_ok nmX8 hown hK hP hD hS 0 rfl rfl 14 (by decide) (hts _ (tb_2 (n := 156) rfl rfl)) (fun _ h9 => h9) rfl (tyX8_ok 14 (by decide)) rfl rfl (Nat.le_of_ble_eq_true rfl) dX8_init_164 (fun H locs hP hD hS => ?_)
  have hP : va_P D am_cl ((h0, .inr (8, [.ref q8, .int (Int32.ofInt 0), .ref (a23 0), .ref (a42 0), .ref (a60 0), .ref (a75 0), .ref (a86 0), .ref q96, .int (Int32.ofInt 0), .ref (a117 0), .ref (a132 0), .ref (a143 0), .int (Int32.ofInt 0), .ref q157, .int (Int32.ofInt 0)])) :: X12) H := hP
  have hD : va_D (fr0 h0 s.heap.size) ((h0, .inr (8, [.ref q8, .int (Int32.ofInt 0), .ref (a23 0), .ref (a42 0), .ref (a60 0), .ref (a75 0), .ref (a86 0), .ref q96, .int (Int32.ofInt 0), .ref (a117 0), .ref (a132 0), .ref (a143 0), .int (Int32.ofInt 0), .ref q157, .int (Int32.ofInt 0)])) :: X12) := hD
  subst eX12 eX11 eX10 eX9 eX8 eX7 eX6 eX5 eX4 eX3 eX2 eX1 eX0
  obtain ⟨ad, h00, hP, hD⟩ : ∃ ad : Nat → Nat, ad 0 = h0 ∧ va_P D am_cl (kW_8 cT ad) H ∧ va_D (fr0 h0 s.heap.size) (kW_8 cT ad) := ⟨fun k => ([h0, q8, (a23 0), (a23 1), (a23 2), (a23 3), (a23 4), (a23 5), (a23 6), (a23 7), (a23 8), (a23 9), (a23 10), (a23 11), (a23 12), (a23 13), (a23 14), (a23 15), (a23 16), (a23 17), (a23 18), (a23 19), (a23 20), (a23 21), (a23 22), (a23 23), (a23 24), (a23 25), (a23 26), (a23 27), (a23 28), (a23 29), (a23 30), (a23 31), (a57 0), (a57 1), (a57 2), (a57 3), (a57 4), (a57 5), (a57 6), (a57 7), (a57 8), (a57 9), (a57 10), (a57 11), (a57 12), (a57 13), (a57 14), (a57 15), (a57 16), (a57 17), (a57 18), (a57 19), (a57 20), (a57 21), (a57 22), (a57 23), (a57 24), (a57 25), (a57 26), (a57 27), (a57 28), (a57 29), (a57 30), (a57 31), (a42 0), (a42 1), (a60 0), (a60 1), (a75 0), (a75 1), (a86 0), (a86 1), (a86 2), (a86 3), (a86 4), (a86 5), (a86 6), (a86 7), (a86 8), (a86 9), (a86 10), (a86 11), (a86 12), (a86 13), (a86 14), (a86 15), (a86 16), (a86 17), (a86 18), (a86 19), (a86 20), (a86 21), (a86 22), (a86 23), (a86 24), (a86 25), (a86 26), (a86 27), (a86 28), (a86 29), (a86 30), (a86 31), (a86 32), (a86 33), (a86 34), (a86 35), (a86 36), (a86 37), (a86 38), (a86 39), (a86 40), (a86 41), (a86 42), q96, w96 0, w96 1, w96 2, (a117 0), (a117 1), (a117 2), (a117 3), (a132 0), (a132 1), (a132 2), (a132 3), (a143 0), (a143 1), (a143 2), (a143 3), (a143 4), (a143 5), (a143 6), q157] : List Nat).getD k 0, rfl, hP, hD⟩
  have hl : lv_has ls 1 [(0, .ref (ad 0))] := by rw [h00]; exact hl
  refine lv_aload_n hx hb dX8_init_167 rfl (lv_at hl 0 rfl) ?_
  refine va_get (D := D) (ci := 8) (v := .ref (ad 68)) (C := RX8) (T := TX8) (N := 15) hx hb hts am_ws_8 hown hK hP 0 rfl rfl 4 (by decide) (hts _ (tb_2 (n := 146) rfl rfl)) (fun _ h9 => h9) rfl dX8_init_168 ?_
  refine bz_call (va_runV (C := RX2) (b := ad 68) (As := []) (rest := []) ⟨hx, hb, hml, hown, hts⟩ (kb_begin l (ws := kW_8 cT ad) (i1 := 68) (i2 := 69) (i3 := 36) (i4 := 37) rfl rfl rfl rfl rfl rfl) ⟨callB_of 0 hts (js_goodIn (tb_2 (n := 116) rfl rfl)) rfl rfl rfl (hts _ (tb_1 (n := 9) rfl rfl)) (hts _ (tb_2 (n := 113) rfl rfl)) ⟨by decide +kernel, by decide +kernel, by decide +kernel⟩ ⟨(Nat.le_of_ble_eq_true rfl), (Nat.le_of_ble_eq_true rfl)⟩, hts _ (tb_2 (n := 114) rfl rfl), hts _ (tb_2 (n := 115) rfl rfl)⟩ ⟨bz_blind _, va_recv (ci := 2) (q0 := 68) hK hP rfl rfl, fun U hU hW => ⟨rfl, by rw [hU]; exact hP, ⟨hD.1, fun _ _ _ => trivial⟩, hK.moved hW.alike⟩⟩ rfl rfl hl.1 rfl (lv_room (Nat.le_of_ble_eq_true rfl)) dX8_init_171 ⟨(Nat.le_of_ble_eq_true rfl), (Nat.le_of_ble_eq_true rfl)⟩) hD hS (fun H locs hP hS => ?_)
  refine lv_aload_n hx hb dX8_init_174 rfl (lv_at hl 0 rfl) ?_
  refine va_get (D := D) (ci := 8) (v := .ref (ad 72)) (C := RX8) (T := TX8) (N := 15) hx hb hts am_ws_8 hown hK hP 0 rfl rfl 6 (by decide) (hts _ (tb_2 (n := 148) rfl rfl)) (fun _ h9 => h9) rfl dX8_init_175 ?_
  refine lv_aload_n hx hb dX8_init_178 rfl (lv_at hl 0 rfl) ?_
  refine va_get (D := D) (ci := 8) (v := .ref (ad 68)) (C := RX8) (T := TX8) (N := 15) hx hb hts am_ws_8 hown hK hP 0 rfl rfl 4 (by decide) (hts _ (tb_2 (n := 146) rfl rfl)) (fun _ h9 => h9) rfl dX8_init_179 ?_
  refine va_get (D := D) (ci := 2) (v := .ref (ad 69)) (C := RX2) (T := TX2) (N := 3) hx hb hts am_ws_2 hown hK hP 68 rfl rfl 0 (by decide) (hts _ (tb_1 (n := 236) rfl rfl)) (fun _ h9 => h9) rfl dX8_init_182 ?_
  refine bz_call (va_runV (C := RX1) (b := ad 72) (As := [.ref (ad 69)]) (rest := []) ⟨hx, hb, hml, hown, hts⟩ (kb_clear l (ws := kW_8 cT ad) (i1 := 72) (i2 := 73) (i3 := 74) (i4 := 69) rfl rfl rfl rfl rfl) ⟨callB_of 1 hts (js_goodIn (tb_2 (n := 136) rfl rfl)) rfl rfl rfl (hts _ (tb_1 (n := 10) rfl rfl)) (hts _ (tb_2 (n := 133) rfl rfl)) ⟨by decide +kernel, by decide +kernel, by decide +kernel⟩ ⟨(Nat.le_of_ble_eq_true rfl), (Nat.le_of_ble_eq_true rfl)⟩, hts _ (tb_2 (n := 134) rfl rfl), hts _ (tb_2 (n := 135) rfl rfl)⟩ ⟨bz_blind _, va_recv (ci := 1) (q0 := 72) hK hP rfl rfl, fun U hU hW => ⟨rfl, by rw [hU]; exact hP, ⟨hD.1, fun _ _ _ => trivial⟩, hK.moved hW.alike⟩⟩ rfl rfl hl.1 rfl (lv_room (Nat.le_of_ble_eq_true rfl)) dX8_init_185 ⟨(Nat.le_of_ble_eq_true rfl), (Nat.le_of_ble_eq_true rfl)⟩) hD hS (fun H locs hP hS => ?_)
  refine W.widen (k := 134) (n := 5813) (Nat.le_of_ble_eq_true rfl) (Nat.le_of_ble_eq_true rfl) ?_
  exact W.vret hx hb hr (fun t ht hW => ⟨⟨rfl, ad, h00, by rw [ht]; exact hP, hD⟩, hS.F ht⟩) hS.2.2 dX8_init_188 hlocks
