/-! ===== the classes; and all methods are contracts ===== -/
theorem pg_k0 : ∀ w ∈ u_ws RX0 TX0 4, w ∈ pg_T := pg_subT (ps := [155, 157, 159, 161]) (by decide +kernel) (by decide +kernel)
theorem pg_t0 : ∀ k, k < 4 → parseFieldDescriptor (TX0 k).2.2.1 = some (pg_ft 0 k) := by decide +kernel
theorem pg_n0 : ∀ a, a < 4 → ∀ b, b < 4 → a ≠ b → (TX0 a).2.1 ≠ (TX0 b).2.1 := by decide +kernel
theorem pg_r0 : ∀ k, k < 4 → (TX0 k).1 = RX0 := by decide +kernel
theorem pg_y0 : ∀ k, k < 4 → mm_isr (pg_ft 0 k) = true ∨ pg_ft 0 k = .int ∨ pg_ft 0 k = .boolean := by decide +kernel
theorem pg_z0 : Cond.instantiable RX0 4 ∈ pg_T ∧ Cond.initialized RX0 ∈ pg_T := ⟨pg_in1 (List.mem_of_getElem? (i := 27) rfl) rfl, pg_in1 (List.mem_of_getElem? (i := 2) rfl) rfl⟩
theorem pg_k1 : ∀ w ∈ u_ws RX1 TX1 15, w ∈ pg_T := pg_subT (ps := [462, 464, 466, 468, 470, 472, 474, 476, 478, 480, 482, 484, 486, 488, 490]) (by decide +kernel) (by decide +kernel)
theorem pg_t1 : ∀ k, k < 15 → parseFieldDescriptor (TX1 k).2.2.1 = some (pg_ft 1 k) := by decide +kernel
theorem pg_n1 : ∀ a, a < 15 → ∀ b, b < 15 → a ≠ b → (TX1 a).2.1 ≠ (TX1 b).2.1 := by decide +kernel
theorem pg_r1 : ∀ k, k < 15 → (TX1 k).1 = RX1 := by decide +kernel
theorem pg_y1 : ∀ k, k < 15 → mm_isr (pg_ft 1 k) = true ∨ pg_ft 1 k = .int ∨ pg_ft 1 k = .boolean := by decide +kernel
theorem pg_z1 : Cond.instantiable RX1 15 ∈ pg_T ∧ Cond.initialized RX1 ∈ pg_T := ⟨pg_in2 (List.mem_of_getElem? (i := 63) rfl) rfl, pg_in1 (List.mem_of_getElem? (i := 11) rfl) rfl⟩
theorem pg_k2 : ∀ w ∈ u_ws RX2 TX2 8, w ∈ pg_T := pg_subT (ps := [262, 264, 266, 268, 270, 272, 274, 276]) (by decide +kernel) (by decide +kernel)
theorem pg_t2 : ∀ k, k < 8 → parseFieldDescriptor (TX2 k).2.2.1 = some (pg_ft 2 k) := by decide +kernel
theorem pg_n2 : ∀ a, a < 8 → ∀ b, b < 8 → a ≠ b → (TX2 a).2.1 ≠ (TX2 b).2.1 := by decide +kernel
theorem pg_r2 : ∀ k, k < 8 → (TX2 k).1 = RX2 := by decide +kernel
theorem pg_y2 : ∀ k, k < 8 → mm_isr (pg_ft 2 k) = true ∨ pg_ft 2 k = .int ∨ pg_ft 2 k = .boolean := by decide +kernel
theorem pg_z2 : Cond.instantiable RX2 8 ∈ pg_T ∧ Cond.initialized RX2 ∈ pg_T := ⟨pg_in1 (List.mem_of_getElem? (i := 106) rfl) rfl, pg_in1 (List.mem_of_getElem? (i := 6) rfl) rfl⟩
theorem pg_k3 : ∀ w ∈ u_ws RX3 TX3 8, w ∈ pg_T := pg_subT (ps := [295, 297, 299, 301, 303, 305, 307, 309]) (by decide +kernel) (by decide +kernel)
theorem pg_t3 : ∀ k, k < 8 → parseFieldDescriptor (TX3 k).2.2.1 = some (pg_ft 3 k) := by decide +kernel
theorem pg_n3 : ∀ a, a < 8 → ∀ b, b < 8 → a ≠ b → (TX3 a).2.1 ≠ (TX3 b).2.1 := by decide +kernel
theorem pg_r3 : ∀ k, k < 8 → (TX3 k).1 = RX3 := by decide +kernel
theorem pg_y3 : ∀ k, k < 8 → mm_isr (pg_ft 3 k) = true ∨ pg_ft 3 k = .int ∨ pg_ft 3 k = .boolean := by decide +kernel
theorem pg_z3 : Cond.instantiable RX3 8 ∈ pg_T ∧ Cond.initialized RX3 ∈ pg_T := ⟨pg_in1 (List.mem_of_getElem? (i := 165) rfl) rfl, pg_in1 (List.mem_of_getElem? (i := 8) rfl) rfl⟩
theorem pg_k4 : ∀ w ∈ u_ws RX4 TX4 11, w ∈ pg_T := pg_subT (ps := [396, 398, 400, 402, 404, 406, 408, 410, 412, 414, 416]) (by decide +kernel) (by decide +kernel)
theorem pg_t4 : ∀ k, k < 11 → parseFieldDescriptor (TX4 k).2.2.1 = some (pg_ft 4 k) := by decide +kernel
theorem pg_n4 : ∀ a, a < 11 → ∀ b, b < 11 → a ≠ b → (TX4 a).2.1 ≠ (TX4 b).2.1 := by decide +kernel
theorem pg_r4 : ∀ k, k < 11 → (TX4 k).1 = RX4 := by decide +kernel
theorem pg_y4 : ∀ k, k < 11 → mm_isr (pg_ft 4 k) = true ∨ pg_ft 4 k = .int ∨ pg_ft 4 k = .boolean := by decide +kernel
theorem pg_z4 : Cond.instantiable RX4 11 ∈ pg_T ∧ Cond.initialized RX4 ∈ pg_T := ⟨pg_in2 (List.mem_of_getElem? (i := 23) rfl) rfl, pg_in1 (List.mem_of_getElem? (i := 10) rfl) rfl⟩
theorem pg_k5 : ∀ w ∈ u_ws RX5 TX5 3, w ∈ pg_T := pg_subT (ps := [215, 217, 219]) (by decide +kernel) (by decide +kernel)
theorem pg_t5 : ∀ k, k < 3 → parseFieldDescriptor (TX5 k).2.2.1 = some (pg_ft 5 k) := by decide +kernel
theorem pg_n5 : ∀ a, a < 3 → ∀ b, b < 3 → a ≠ b → (TX5 a).2.1 ≠ (TX5 b).2.1 := by decide +kernel
theorem pg_r5 : ∀ k, k < 3 → (TX5 k).1 = RX5 := by decide +kernel
theorem pg_y5 : ∀ k, k < 3 → mm_isr (pg_ft 5 k) = true ∨ pg_ft 5 k = .int ∨ pg_ft 5 k = .boolean := by decide +kernel
theorem pg_z5 : Cond.instantiable RX5 3 ∈ pg_T ∧ Cond.initialized RX5 ∈ pg_T := ⟨pg_in1 (List.mem_of_getElem? (i := 85) rfl) rfl, pg_in1 (List.mem_of_getElem? (i := 4) rfl) rfl⟩
theorem pg_k6 : ∀ w ∈ u_ws RX6 TX6 4, w ∈ pg_T := pg_subT (ps := [505, 507, 509, 511]) (by decide +kernel) (by decide +kernel)
theorem pg_t6 : ∀ k, k < 4 → parseFieldDescriptor (TX6 k).2.2.1 = some (pg_ft 6 k) := by decide +kernel
theorem pg_n6 : ∀ a, a < 4 → ∀ b, b < 4 → a ≠ b → (TX6 a).2.1 ≠ (TX6 b).2.1 := by decide +kernel
theorem pg_r6 : ∀ k, k < 4 → (TX6 k).1 = RX6 := by decide +kernel
theorem pg_y6 : ∀ k, k < 4 → mm_isr (pg_ft 6 k) = true ∨ pg_ft 6 k = .int ∨ pg_ft 6 k = .boolean := by decide +kernel
theorem pg_z6 : Cond.instantiable RX6 4 ∈ pg_T ∧ Cond.initialized RX6 ∈ pg_T := ⟨pg_in2 (List.mem_of_getElem? (i := 137) rfl) rfl, pg_in1 (List.mem_of_getElem? (i := 12) rfl) rfl⟩
theorem pg_k7 : ∀ w ∈ u_ws RX7 TX7 13, w ∈ pg_T := pg_subT (ps := [352, 354, 356, 358, 360, 362, 364, 366, 368, 370, 372, 374, 376]) (by decide +kernel) (by decide +kernel)
theorem pg_t7 : ∀ k, k < 13 → parseFieldDescriptor (TX7 k).2.2.1 = some (pg_ft 7 k) := by decide +kernel
theorem pg_n7 : ∀ a, a < 13 → ∀ b, b < 13 → a ≠ b → (TX7 a).2.1 ≠ (TX7 b).2.1 := by decide +kernel
theorem pg_r7 : ∀ k, k < 13 → (TX7 k).1 = RX7 := by decide +kernel
theorem pg_y7 : ∀ k, k < 13 → mm_isr (pg_ft 7 k) = true ∨ pg_ft 7 k = .int ∨ pg_ft 7 k = .boolean := by decide +kernel
theorem pg_z7 : Cond.instantiable RX7 13 ∈ pg_T ∧ Cond.initialized RX7 ∈ pg_T := ⟨pg_in1 (List.mem_of_getElem? (i := 163) rfl) rfl, pg_in1 (List.mem_of_getElem? (i := 7) rfl) rfl⟩
theorem pg_k8 : ∀ w ∈ u_ws RX9 TX9 3, w ∈ pg_T := pg_subT (ps := [332, 334, 336]) (by decide +kernel) (by decide +kernel)
theorem pg_t8 : ∀ k, k < 3 → parseFieldDescriptor (TX9 k).2.2.1 = some (pg_ft 8 k) := by decide +kernel
theorem pg_n8 : ∀ a, a < 3 → ∀ b, b < 3 → a ≠ b → (TX9 a).2.1 ≠ (TX9 b).2.1 := by decide +kernel
theorem pg_r8 : ∀ k, k < 3 → (TX9 k).1 = RX9 := by decide +kernel
theorem pg_y8 : ∀ k, k < 3 → mm_isr (pg_ft 8 k) = true ∨ pg_ft 8 k = .int ∨ pg_ft 8 k = .boolean := by decide +kernel
theorem pg_z8 : Cond.instantiable RX9 3 ∈ pg_T ∧ Cond.initialized RX9 ∈ pg_T := ⟨pg_in1 (List.mem_of_getElem? (i := 203) rfl) rfl, pg_in1 (List.mem_of_getElem? (i := 9) rfl) rfl⟩
theorem pg_k9 : ∀ w ∈ u_ws RX10 TX10 7, w ∈ pg_T := pg_subT (ps := [185, 187, 189, 191, 193, 195, 197]) (by decide +kernel) (by decide +kernel)
theorem pg_t9 : ∀ k, k < 7 → parseFieldDescriptor (TX10 k).2.2.1 = some (pg_ft 9 k) := by decide +kernel
theorem pg_n9 : ∀ a, a < 7 → ∀ b, b < 7 → a ≠ b → (TX10 a).2.1 ≠ (TX10 b).2.1 := by decide +kernel
theorem pg_r9 : ∀ k, k < 7 → (TX10 k).1 = RX10 := by decide +kernel
theorem pg_y9 : ∀ k, k < 7 → mm_isr (pg_ft 9 k) = true ∨ pg_ft 9 k = .int ∨ pg_ft 9 k = .boolean := by decide +kernel
theorem pg_z9 : Cond.instantiable RX10 7 ∈ pg_T ∧ Cond.initialized RX10 ∈ pg_T := ⟨pg_in1 (List.mem_of_getElem? (i := 49) rfl) rfl, pg_in1 (List.mem_of_getElem? (i := 3) rfl) rfl⟩
theorem pg_k10 : ∀ w ∈ u_ws RX11 TX11 12, w ∈ pg_T := pg_subT (ps := [526, 528, 530, 532, 534, 536, 538, 540, 542, 544, 546, 548]) (by decide +kernel) (by decide +kernel)
theorem pg_t10 : ∀ k, k < 12 → parseFieldDescriptor (TX11 k).2.2.1 = some (pg_ft 10 k) := by decide +kernel
theorem pg_n10 : ∀ a, a < 12 → ∀ b, b < 12 → a ≠ b → (TX11 a).2.1 ≠ (TX11 b).2.1 := by decide +kernel
theorem pg_r10 : ∀ k, k < 12 → (TX11 k).1 = RX11 := by decide +kernel
theorem pg_y10 : ∀ k, k < 12 → mm_isr (pg_ft 10 k) = true ∨ pg_ft 10 k = .int ∨ pg_ft 10 k = .boolean := by decide +kernel
theorem pg_z10 : Cond.instantiable RX11 12 ∈ pg_T ∧ Cond.initialized RX11 ∈ pg_T := ⟨pg_in1 (List.mem_of_getElem? (i := 19) rfl) rfl, pg_in1 (List.mem_of_getElem? (i := 1) rfl) rfl⟩
theorem pg_k11 : ∀ w ∈ u_ws RX12 TX12 59, w ∈ pg_T := pg_subT (ps := [1192, 1194, 1196, 1198, 1200, 1202, 1204, 1206, 1208, 1210, 1212, 1214, 1216, 1218, 1220, 1222, 1224, 1226, 1228, 1230, 1232, 1234, 1236, 1238, 1240, 1242, 1244, 1246, 1248, 1250, 1252, 1254, 1256, 1258, 1260, 1262, 1264, 1266, 1268, 1270, 1272, 1274, 1276, 1278, 1280, 1282, 1284, 1286, 1288, 1290, 1292, 1294, 1296, 1298, 1300, 1302, 1304, 1306, 1308]) (by decide +kernel) (by decide +kernel)
theorem pg_t11 : ∀ k, k < 59 → parseFieldDescriptor (TX12 k).2.2.1 = some (pg_ft 11 k) := by decide +kernel
theorem pg_n11 : ∀ a, a < 59 → ∀ b, b < 59 → a ≠ b → (TX12 a).2.1 ≠ (TX12 b).2.1 := by decide +kernel
theorem pg_r11 : ∀ k, k < 59 → (TX12 k).1 = RX12 := by decide +kernel
theorem pg_y11 : ∀ k, k < 59 → mm_isr (pg_ft 11 k) = true ∨ pg_ft 11 k = .int ∨ pg_ft 11 k = .boolean := by decide +kernel
theorem pg_z11 : Cond.instantiable RX12 59 ∈ pg_T ∧ Cond.initialized RX12 ∈ pg_T := ⟨pg_in5 (List.mem_of_getElem? (i := 47) rfl) rfl, pg_in1 (List.mem_of_getElem? (i := 13) rfl) rfl⟩
theorem pg_Cl : mm_Cl pg_T pg_cl pg_ft := fun ci r h => match ci, h with
  | 0, h => by cases h; exact ⟨pg_k0, pg_t0, pg_n0, pg_r0, pg_y0, pg_z0.1, pg_z0.2⟩
  | 1, h => by cases h; exact ⟨pg_k1, pg_t1, pg_n1, pg_r1, pg_y1, pg_z1.1, pg_z1.2⟩
  | 2, h => by cases h; exact ⟨pg_k2, pg_t2, pg_n2, pg_r2, pg_y2, pg_z2.1, pg_z2.2⟩
  | 3, h => by cases h; exact ⟨pg_k3, pg_t3, pg_n3, pg_r3, pg_y3, pg_z3.1, pg_z3.2⟩
  | 4, h => by cases h; exact ⟨pg_k4, pg_t4, pg_n4, pg_r4, pg_y4, pg_z4.1, pg_z4.2⟩
  | 5, h => by cases h; exact ⟨pg_k5, pg_t5, pg_n5, pg_r5, pg_y5, pg_z5.1, pg_z5.2⟩
  | 6, h => by cases h; exact ⟨pg_k6, pg_t6, pg_n6, pg_r6, pg_y6, pg_z6.1, pg_z6.2⟩
  | 7, h => by cases h; exact ⟨pg_k7, pg_t7, pg_n7, pg_r7, pg_y7, pg_z7.1, pg_z7.2⟩
  | 8, h => by cases h; exact ⟨pg_k8, pg_t8, pg_n8, pg_r8, pg_y8, pg_z8.1, pg_z8.2⟩
  | 9, h => by cases h; exact ⟨pg_k9, pg_t9, pg_n9, pg_r9, pg_y9, pg_z9.1, pg_z9.2⟩
  | 10, h => by cases h; exact ⟨pg_k10, pg_t10, pg_n10, pg_r10, pg_y10, pg_z10.1, pg_z10.2⟩
  | 11, h => by cases h; exact ⟨pg_k11, pg_t11, pg_n11, pg_r11, pg_y11, pg_z11.1, pg_z11.2⟩
  | k + 12, h => by simp [pg_cl] at h
theorem pg_peL : ∀ q ∈ pg_ms, mm_Pe "ScanDesk" "ScanDesk$Table" pg_T pg_xs pg_cl pg_ft pg_mt q := pg_ec pg_e0 (pg_ec pg_e1 (pg_ec pg_e2 (pg_ec pg_e3 (pg_ec pg_e4 (pg_ec pg_e5 (pg_ec pg_e6 (pg_ec pg_e7 (pg_ec pg_e8 (pg_ec pg_e9 (pg_ec pg_e10 (pg_ec pg_e11 (pg_ec pg_e12 (pg_ec pg_e13 (pg_ec pg_e14 (pg_ec pg_e15 (pg_ec pg_e16 (pg_ec pg_e17 (pg_ec pg_e18 (pg_ec pg_e19 (pg_ec pg_e20 (pg_ec pg_e21 (pg_ec pg_e22 (pg_ec pg_e23 (pg_ec pg_e24 (pg_ec pg_e25 (pg_ec pg_e26 (pg_ec pg_e27 (pg_ec pg_e28 (pg_ec pg_e29 (pg_ec pg_e30 (pg_ec pg_e31 (pg_ec pg_e32 (pg_ec pg_e33 (pg_ec pg_e34 (pg_ec pg_e35 (pg_ec pg_e36 (pg_ec pg_e37 (pg_ec pg_e38 (pg_ec pg_e39 (pg_ec pg_e40 (pg_ec pg_e41 (pg_ec pg_e42 (pg_ec pg_e43 (pg_ec pg_e44 (pg_ec pg_e45 (pg_ec pg_e46 (pg_ec pg_e47 (pg_ec pg_e48 (pg_ec pg_e49 (pg_ec pg_e50 (pg_ec pg_e51 (pg_ec pg_e52 (pg_ec pg_e53 (pg_ec pg_e54 (pg_ec pg_e55 (pg_ec pg_e56 (pg_ec pg_e57 (pg_ec pg_e58 (pg_ec pg_e59 (pg_ec pg_e60 (pg_ec pg_e61 (pg_ec pg_e62 (pg_ec pg_e63 (pg_ec pg_e64 (pg_ec pg_e65 (pg_ec pg_e66 (pg_ec pg_e67 (pg_ec pg_e68 (pg_ec pg_e69 (pg_ec pg_e70 (pg_ec pg_e71 (pg_ec pg_e72 (pg_ec pg_e73 (pg_ec pg_e74 (pg_ec pg_e75 (pg_ec pg_e76 (pg_ec pg_e77 (pg_ec pg_e78 (pg_ec pg_e79 (pg_ec pg_e80 (pg_ec pg_e81 (pg_ec pg_e82 (pg_ec pg_e83 (pg_ec pg_e84 (pg_ec pg_e85 (pg_ec pg_e86 (pg_ec pg_e87 (pg_ec pg_e88 (pg_ec pg_e89 (pg_ec pg_e90 (pg_ec pg_e91 (pg_ec pg_e92 (pg_ec pg_e93 (pg_ec pg_e94 (pg_ec pg_e95 (pg_ec pg_e96 (pg_ec pg_e97 (pg_ec pg_e98 (pg_ec pg_e99 (pg_ec pg_e100 (pg_ec pg_e101 (pg_ec pg_e102 (pg_ec pg_e103 (pg_ec pg_e104 (pg_ec pg_e105 (pg_ec pg_e106 (pg_ec pg_e107 (pg_ec pg_e108 (pg_ec pg_e109 (pg_ec pg_e110 (pg_ec pg_e111 (pg_ec pg_e112 (pg_ec pg_e113 (pg_ec pg_e114 (pg_ec pg_e115 (pg_ec pg_e116 (pg_ec pg_e117 (pg_ec pg_e118 (pg_ec pg_e119 (pg_ec pg_e120 (pg_ec pg_e121 (pg_ec pg_e122 (pg_ec pg_e123 (pg_ec pg_e124 (pg_ec pg_e125 (pg_ec pg_e126 (pg_ec pg_e127 (pg_ec pg_e128 (pg_ec pg_e129 (pg_ec pg_e130 (pg_ec pg_e131 (pg_ec pg_e132 (pg_ec pg_e133 (pg_ec pg_e134 (pg_ec pg_e135 (pg_ec pg_e136 (pg_ec pg_e137 (pg_ec pg_e138 (pg_ec pg_e139 (pg_ec pg_e140 (pg_ec pg_e141 (pg_ec pg_e142 (pg_ec pg_e143 (pg_ec pg_e144 (pg_ec pg_e145 (pg_ec pg_e146 (pg_ec pg_e147 (pg_ec pg_e148 (pg_ec pg_e149 (pg_ec pg_e150 (pg_ec pg_e151 (pg_ec pg_e152 (pg_ec pg_e153 (pg_ec pg_e154 (pg_ec pg_e155 (pg_ec pg_e156 (pg_ec pg_e157 (pg_ec pg_e158 (pg_ec pg_e159 (pg_ec pg_e160 (pg_ec pg_e161 (pg_ec pg_e162 (pg_ec pg_e163 (pg_ec pg_e164 (pg_ec pg_e165 (pg_ec pg_e166 (pg_ec pg_e167 (pg_ec pg_e168 (pg_ec pg_e169 (pg_ec pg_e170 (pg_ec pg_e171 (pg_ec pg_e172 (pg_ec pg_e173 (pg_ec pg_e174 (pg_ec pg_e175 (pg_ec pg_e176 (pg_ec pg_e177 (pg_ec pg_e178 (pg_ec pg_e179 (pg_ec pg_e180 (pg_ec pg_e181 (pg_ec pg_e182 (pg_ec pg_e183 (pg_ec pg_e184 (pg_ec pg_e185 (pg_ec pg_e186 (pg_ec pg_e187 (pg_ec pg_e188 (pg_ec pg_e189 (pg_ec pg_e190 (pg_ec pg_e191 (pg_ec pg_e192 (pg_ec pg_e193 (pg_ec pg_e194 (pg_ec pg_e195 (pg_ec pg_e196 (pg_ec pg_e197 (pg_ec pg_e198 (pg_ec pg_e199 (pg_ec pg_e200 (pg_ec pg_e201 (pg_ec pg_e202 (pg_ec pg_e203 (pg_ec pg_e204 (pg_ec pg_e205 (pg_ec pg_e206 (pg_ec pg_e207 (pg_ec pg_e208 (pg_ec pg_e209 (pg_ec pg_e210 (pg_ec pg_e211 (pg_ec pg_e212 (pg_ec pg_e213 (pg_ec pg_e214 (pg_ec pg_e215 (pg_ec pg_e216 (pg_ec pg_e217 (pg_ec pg_e218 (pg_ec pg_e219 (pg_ec pg_e220 (pg_ec pg_e221 (pg_ec pg_e222 (pg_ec pg_e223 (pg_ec pg_e224 (pg_ec pg_e225 (pg_ec pg_e226 (pg_ec pg_e227 (pg_ec pg_e228 (pg_ec pg_e229 (pg_ec pg_e230 (pg_ec pg_e231 (pg_ec pg_e232 (pg_ec pg_e233 (pg_ec pg_e234 (pg_ec pg_e235 (pg_ec pg_e236 (pg_ec pg_e237 (fun q h => by cases h))))))))))))))))))))))))))))))))))))))))))))))))))))))))))))))))))))))))))))))))))))))))))))))))))))))))))))))))))))))))))))))))))))))))))))))))))))))))))))))))))))))))))))))))))))))))))))))))))))))))))))))))))))))))))))))))))))))))))))))
theorem pg_Pe : ∀ y q, pg_mt y = some q → mm_Pe "ScanDesk" "ScanDesk$Table" pg_T pg_xs pg_cl pg_ft pg_mt q := fun y q h => pg_peL q (List.mem_of_getElem? h)
/-- every method of class and reference: what the small machine answers, the machine answers -/
theorem pg_Calls (l : Launch) (D : va_G) (cA : Nat → ClassId) (d : Nat) : mm_Calls l D pg_cl pg_ft cA "ScanDesk$Table" pg_T pg_xs pg_mt d (mm_ev pg_mt d) := mm_all pg_Cl pg_good pg_Mo pg_Pe pg_xk ⟨pg_oi, pg_oc⟩ pg_mx pg_mn d
