def q_fldT : List (Nat × Nat × Nat × Nat) := [(7, 22, 5, 0), (7, 25, 5, 1), (7, 28, 5, 2), (7, 7, 5, 3), (5, 14, 3, 0), (11, 250, 3, 0), (5, 18, 3, 1), (11, 28, 3, 1), (5, 21, 3, 2), (5, 25, 3, 3), (10, 14, 8, 0), (11, 98, 8, 0), (10, 20, 8, 1), (11, 117, 8, 1), (10, 23, 8, 2), (11, 165, 8, 2), (10, 26, 8, 3), (2, 83, 8, 3), (11, 132, 8, 3), (10, 29, 8, 4), (2, 41, 8, 4), (11, 138, 8, 4), (10, 32, 8, 5), (2, 15, 8, 5), (11, 229, 8, 5), (10, 35, 8, 6), (11, 347, 8, 6), (11, 24, 8, 7), (10, 41, 8, 7), (10, 45, 8, 8), (2, 9, 8, 8), (11, 280, 8, 8), (10, 49, 8, 9), (11, 120, 8, 9), (10, 52, 8, 10), (11, 123, 8, 10), (8, 27, 6, 0), (8, 11, 6, 1), (8, 17, 6, 2), (8, 21, 6, 3), (8, 24, 6, 4), (6, 16, 4, 0), (1, 14, 1, 0), (11, 201, 1, 0), (1, 18, 1, 1), (11, 213, 1, 1), (1, 21, 1, 2), (1, 24, 1, 3), (1, 27, 1, 4), (1, 30, 1, 5), (1, 34, 1, 6), (1, 38, 1, 7), (1, 41, 1, 8), (4, 14, 2, 0), (4, 18, 2, 1), (4, 21, 2, 2), (0, 14, 0, 0), (0, 18, 0, 1), (0, 22, 0, 2), (9, 14, 7, 0), (11, 334, 7, 0), (9, 20, 7, 1), (9, 24, 7, 2), (9, 27, 7, 3), (11, 10, 9, 0), (11, 16, 9, 1), (11, 19, 9, 2), (11, 37, 9, 3), (11, 44, 9, 4), (11, 51, 9, 5), (11, 58, 9, 6), (11, 65, 9, 7), (11, 72, 9, 8), (11, 76, 9, 9), (11, 80, 9, 10), (12, 3, 10, 0), (12, 18, 10, 1), (12, 21, 10, 2), (12, 24, 10, 3), (12, 27, 10, 4), (12, 30, 10, 5), (12, 33, 10, 6), (12, 36, 10, 7), (12, 39, 10, 8), (12, 42, 10, 9), (12, 45, 10, 10), (12, 48, 10, 11), (12, 51, 10, 12), (12, 54, 10, 13), (12, 57, 10, 14), (12, 60, 10, 15), (12, 63, 10, 16), (12, 66, 10, 17), (12, 69, 10, 18), (12, 72, 10, 19), (12, 75, 10, 20), (12, 78, 10, 21), (12, 81, 10, 22), (12, 84, 10, 23), (12, 87, 10, 24), (12, 90, 10, 25), (12, 93, 10, 26), (12, 96, 10, 27), (12, 99, 10, 28), (12, 102, 10, 29), (12, 105, 10, 30), (12, 108, 10, 31), (12, 111, 10, 32), (12, 114, 10, 33), (12, 117, 10, 34), (12, 120, 10, 35), (12, 173, 10, 36), (12, 185, 10, 37), (12, 189, 10, 38), (12, 123, 10, 39), (12, 126, 10, 40), (12, 129, 10, 41), (12, 132, 10, 42), (12, 135, 10, 43), (12, 138, 10, 44), (12, 248, 10, 45), (12, 251, 10, 46), (12, 254, 10, 47), (12, 294, 10, 48), (12, 335, 10, 49), (12, 300, 10, 50), (12, 307, 10, 51), (12, 297, 10, 52), (12, 141, 10, 53), (12, 144, 10, 54), (12, 147, 10, 55), (12, 150, 10, 56), (12, 153, 10, 57), (12, 156, 10, 58), (12, 386, 10, 59), (12, 377, 10, 60), (12, 389, 10, 61), (12, 380, 10, 62), (12, 383, 10, 63), (12, 392, 10, 64), (12, 159, 10, 65), (12, 163, 10, 66), (12, 167, 10, 67), (12, 418, 10, 68), (12, 424, 10, 69), (12, 170, 10, 70)]
abbrev q_clD (i : Nat) : vw_C := q_cls.getD i ("", TX0, 0)
def q_fldW (q : Nat × Nat × Nat × Nat) : Cond := .fieldLink (q_cn q.1) q.2.1 (q_clD q.2.2.1).1 ((q_clD q.2.2.1).2.1 q.2.2.2).2.1 ((q_clD q.2.2.1).2.1 q.2.2.2).2.2.1
set_option maxRecDepth 100000 in
set_option maxHeartbeats 4000000 in
theorem q_fldT_ok : ∀ q ∈ q_fldT, q_fldW q ∈ lw_tbl := by
  have h : q_fldT.map q_fldW = ([144, 145, 146, 147, 166, 167, 168, 169, 170, 171, 181, 182, 183, 184, 185, 186, 187, 188, 189, 190, 191, 192, 193, 194, 195, 196, 197, 198, 199, 200, 201, 202, 203, 204, 205, 206, 236, 237, 238, 239, 240, 268, 280, 281, 282, 283, 284, 285, 286, 287, 288, 289, 290, 318, 319, 320, 336, 337, 338, 354, 355, 356, 357, 358, 368, 369, 370, 371, 372, 373, 374, 375, 376, 377, 378, 1242, 1243, 1244, 1245, 1246, 1247, 1248, 1249, 1250, 1251, 1252, 1253, 1254, 1255, 1256, 1257, 1258, 1259, 1260, 1261, 1262, 1263, 1264, 1265, 1266, 1267, 1268, 1269, 1270, 1271, 1272, 1273, 1274, 1275, 1276, 1277, 1278, 1279, 1280, 1281, 1282, 1283, 1284, 1285, 1286, 1287, 1288, 1289, 1290, 1291, 1292, 1293, 1294, 1295, 1296, 1297, 1298, 1299, 1300, 1301, 1302, 1303, 1304, 1305, 1306, 1307, 1308, 1309, 1310, 1311, 1312] : List Nat).filterMap (fun i => lw_tbl[i]?) := by decide +kernel
  intro q hq
  have h1 : q_fldW q ∈ q_fldT.map q_fldW := List.mem_map.mpr ⟨q, hq, rfl⟩
  rw [h] at h1
  obtain ⟨i, -, hi⟩ := List.mem_filterMap.mp h1
  exact List.mem_of_getElem? hi
def q_cstT : List (Nat × Nat × Int32) := [(11, 359, -1000000), (14, 265, 1431655765), (14, 266, 858993459), (14, 267, 252645135), (1, 78, 100000), (1, 96, 10000000), (12, 162, 40960), (12, 192, -1000002), (12, 7, -1000000), (12, 207, -1000001), (12, 208, -1000004), (12, 237, -1000003), (12, 244, -1000005), (12, 271, 1000000000)]
def q_cstW (q : Nat × Nat × Int32) : Cond := .constant (q_cn q.1) q.2.1 q.2.2
set_option maxRecDepth 100000 in
set_option maxHeartbeats 4000000 in
theorem q_cstT_ok : ∀ q ∈ q_cstT, q_cstW q ∈ lw_tbl := by
  have h : q_cstT.map q_cstW = ([416, 582, 583, 584, 621, 626, 1241, 1473, 1478, 1489, 1490, 1562, 1574, 1602] : List Nat).filterMap (fun i => lw_tbl[i]?) := by decide +kernel
  intro q hq
  have h1 : q_cstW q ∈ q_cstT.map q_cstW := List.mem_map.mpr ⟨q, hq, rfl⟩
  rw [h] at h1
  obtain ⟨i, -, hi⟩ := List.mem_filterMap.mp h1
  exact List.mem_of_getElem? hi
def q_lcsT : List (Nat × Nat × Int64) := [(12, 292, 255), (13, 107, 4294967295)]
def q_lcsW (q : Nat × Nat × Int64) : Cond := .constantLong (q_cn q.1) q.2.1 q.2.2
set_option maxRecDepth 100000 in
set_option maxHeartbeats 4000000 in
theorem q_lcsT_ok : ∀ q ∈ q_lcsT, q_lcsW q ∈ lw_tbl := by
  have h : q_lcsT.map q_lcsW = ([1673, 1908] : List Nat).filterMap (fun i => lw_tbl[i]?) := by decide +kernel
  intro q hq
  have h1 : q_lcsW q ∈ q_lcsT.map q_lcsW := List.mem_map.mpr ⟨q, hq, rfl⟩
  rw [h] at h1
  obtain ⟨i, -, hi⟩ := List.mem_filterMap.mp h1
  exact List.mem_of_getElem? hi
def q_newT : List (Nat × Nat × Nat) := [(13, 7, 9), (11, 7, 8), (10, 9, 5), (10, 38, 3), (5, 7, 5), (11, 22, 6), (11, 41, 4), (6, 9, 5), (11, 48, 1), (1, 9, 5), (11, 55, 2), (4, 7, 5), (11, 62, 0), (0, 7, 5), (11, 69, 7), (9, 9, 5), (13, 10, 10)]
def q_newW (q : Nat × Nat × Nat) : Cond := .classLink (q_cn q.1) q.2.1 (q_clD q.2.2).1
set_option maxRecDepth 100000 in
set_option maxHeartbeats 4000000 in
theorem q_newT_ok : ∀ q ∈ q_newT, q_newW q ∈ lw_tbl := by
  have h : q_newT.map q_newW = ([118, 126, 132, 158, 164, 230, 252, 258, 272, 278, 310, 316, 328, 334, 346, 352, 1235] : List Nat).filterMap (fun i => lw_tbl[i]?) := by decide +kernel
  intro q hq
  have h1 : q_newW q ∈ q_newT.map q_newW := List.mem_map.mpr ⟨q, hq, rfl⟩
  rw [h] at h1
  obtain ⟨i, -, hi⟩ := List.mem_filterMap.mp h1
  exact List.mem_of_getElem? hi
def q_objT : List (Nat × Unit) := [(0, ()), (1, ()), (2, ()), (3, ()), (4, ()), (5, ()), (6, ()), (7, ()), (8, ()), (9, ()), (10, ())]
def q_insW (q : Nat × Unit) : Cond := .instantiable (q_clD q.1).1 (q_clD q.1).2.2
def q_iniW (q : Nat × Unit) : Cond := .initialized (q_clD q.1).1
theorem q_insW_ok : ∀ q ∈ q_objT, q_insW q ∈ lw_tbl := by
  have h : q_objT.map q_insW = ([329, 273, 311, 159, 253, 133, 231, 347, 127, 119, 1236] : List Nat).filterMap (fun i => lw_tbl[i]?) := by decide +kernel
  intro q hq
  have h1 : q_insW q ∈ q_objT.map q_insW := List.mem_map.mpr ⟨q, hq, rfl⟩
  rw [h] at h1
  obtain ⟨i, -, hi⟩ := List.mem_filterMap.mp h1
  exact List.mem_of_getElem? hi
theorem q_iniW_ok : ∀ q ∈ q_objT, q_iniW q ∈ lw_tbl := by
  have h : q_objT.map q_iniW = ([106, 104, 105, 101, 103, 99, 102, 107, 98, 97, 108] : List Nat).filterMap (fun i => lw_tbl[i]?) := by decide +kernel
  intro q hq
  have h1 : q_iniW q ∈ q_objT.map q_iniW := List.mem_map.mpr ⟨q, hq, rfl⟩
  rw [h] at h1
  obtain ⟨i, -, hi⟩ := List.mem_filterMap.mp h1
  exact List.mem_of_getElem? hi
set_option maxRecDepth 100000 in
theorem q_inX0 : ∀ w ∈ u_ws RX0 TX0 3, w ∈ lw_tbl := by
  have h : u_ws RX0 TX0 3 = ([339, 341, 343] : List Nat).filterMap (fun i => lw_tbl[i]?) := by decide +kernel
  intro q h1
  rw [h] at h1
  obtain ⟨i, -, hi⟩ := List.mem_filterMap.mp h1
  exact List.mem_of_getElem? hi
set_option maxRecDepth 100000 in
theorem q_inX1 : ∀ w ∈ u_ws RX1 TX1 9, w ∈ lw_tbl := by
  have h : u_ws RX1 TX1 9 = ([291, 293, 295, 297, 299, 301, 303, 305, 307] : List Nat).filterMap (fun i => lw_tbl[i]?) := by decide +kernel
  intro q h1
  rw [h] at h1
  obtain ⟨i, -, hi⟩ := List.mem_filterMap.mp h1
  exact List.mem_of_getElem? hi
set_option maxRecDepth 100000 in
theorem q_inX4 : ∀ w ∈ u_ws RX4 TX4 3, w ∈ lw_tbl := by
  have h : u_ws RX4 TX4 3 = ([321, 323, 325] : List Nat).filterMap (fun i => lw_tbl[i]?) := by decide +kernel
  intro q h1
  rw [h] at h1
  obtain ⟨i, -, hi⟩ := List.mem_filterMap.mp h1
  exact List.mem_of_getElem? hi
set_option maxRecDepth 100000 in
theorem q_inX5 : ∀ w ∈ u_ws RX5 TX5 4, w ∈ lw_tbl := by
  have h : u_ws RX5 TX5 4 = ([172, 174, 176, 178] : List Nat).filterMap (fun i => lw_tbl[i]?) := by decide +kernel
  intro q h1
  rw [h] at h1
  obtain ⟨i, -, hi⟩ := List.mem_filterMap.mp h1
  exact List.mem_of_getElem? hi
set_option maxRecDepth 100000 in
theorem q_inX6 : ∀ w ∈ u_ws RX6 TX6 1, w ∈ lw_tbl := by
  have h : u_ws RX6 TX6 1 = ([269] : List Nat).filterMap (fun i => lw_tbl[i]?) := by decide +kernel
  intro q h1
  rw [h] at h1
  obtain ⟨i, -, hi⟩ := List.mem_filterMap.mp h1
  exact List.mem_of_getElem? hi
set_option maxRecDepth 100000 in
theorem q_inX7 : ∀ w ∈ u_ws RX7 TX7 4, w ∈ lw_tbl := by
  have h : u_ws RX7 TX7 4 = ([148, 150, 152, 154] : List Nat).filterMap (fun i => lw_tbl[i]?) := by decide +kernel
  intro q h1
  rw [h] at h1
  obtain ⟨i, -, hi⟩ := List.mem_filterMap.mp h1
  exact List.mem_of_getElem? hi
set_option maxRecDepth 100000 in
theorem q_inX8 : ∀ w ∈ u_ws RX8 TX8 5, w ∈ lw_tbl := by
  have h : u_ws RX8 TX8 5 = ([241, 243, 245, 247, 249] : List Nat).filterMap (fun i => lw_tbl[i]?) := by decide +kernel
  intro q h1
  rw [h] at h1
  obtain ⟨i, -, hi⟩ := List.mem_filterMap.mp h1
  exact List.mem_of_getElem? hi
set_option maxRecDepth 100000 in
theorem q_inX9 : ∀ w ∈ u_ws RX9 TX9 4, w ∈ lw_tbl := by
  have h : u_ws RX9 TX9 4 = ([359, 361, 363, 365] : List Nat).filterMap (fun i => lw_tbl[i]?) := by decide +kernel
  intro q h1
  rw [h] at h1
  obtain ⟨i, -, hi⟩ := List.mem_filterMap.mp h1
  exact List.mem_of_getElem? hi
set_option maxRecDepth 100000 in
theorem q_inX10 : ∀ w ∈ u_ws RX10 TX10 11, w ∈ lw_tbl := by
  have h : u_ws RX10 TX10 11 = ([207, 209, 211, 213, 215, 217, 219, 221, 223, 225, 227] : List Nat).filterMap (fun i => lw_tbl[i]?) := by decide +kernel
  intro q h1
  rw [h] at h1
  obtain ⟨i, -, hi⟩ := List.mem_filterMap.mp h1
  exact List.mem_of_getElem? hi
set_option maxRecDepth 100000 in
theorem q_inX11 : ∀ w ∈ u_ws RX11 TX11 11, w ∈ lw_tbl := by
  have h : u_ws RX11 TX11 11 = ([379, 381, 383, 385, 387, 389, 391, 393, 395, 397, 399] : List Nat).filterMap (fun i => lw_tbl[i]?) := by decide +kernel
  intro q h1
  rw [h] at h1
  obtain ⟨i, -, hi⟩ := List.mem_filterMap.mp h1
  exact List.mem_of_getElem? hi
set_option maxRecDepth 100000 in
theorem q_inX12 : ∀ w ∈ u_ws RX12 TX12 71, w ∈ lw_tbl := by
  have h : u_ws RX12 TX12 71 = ([1313, 1315, 1317, 1319, 1321, 1323, 1325, 1327, 1329, 1331, 1333, 1335, 1337, 1339, 1341, 1343, 1345, 1347, 1349, 1351, 1353, 1355, 1357, 1359, 1361, 1363, 1365, 1367, 1369, 1371, 1373, 1375, 1377, 1379, 1381, 1383, 1385, 1387, 1389, 1391, 1393, 1395, 1397, 1399, 1401, 1403, 1405, 1407, 1409, 1411, 1413, 1415, 1417, 1419, 1421, 1423, 1425, 1427, 1429, 1431, 1433, 1435, 1437, 1439, 1441, 1443, 1445, 1447, 1449, 1451, 1453] : List Nat).filterMap (fun i => lw_tbl[i]?) := by decide +kernel
  intro q h1
  rw [h] at h1
  obtain ⟨i, -, hi⟩ := List.mem_filterMap.mp h1
  exact List.mem_of_getElem? hi
theorem q_tk0 {w : Cond} (h : w ∈ k2_sels lw_privs) : w ∈ lw_tbl := List.mem_append_left _ h
theorem q_tk1 {w : Cond} (h : w ∈ tables_1_1) : w ∈ lw_tbl := List.mem_append_right _ (show w ∈ tables_1 from List.mem_append_left _ h)
theorem q_tk2 {w : Cond} (h : w ∈ tables_1_2) : w ∈ lw_tbl := List.mem_append_right _ (show w ∈ tables_1 from List.mem_append_right _ (List.mem_append_left _ h))
theorem q_tk3 {w : Cond} (h : w ∈ tables_1_3) : w ∈ lw_tbl := List.mem_append_right _ (show w ∈ tables_1 from List.mem_append_right _ (List.mem_append_right _ (List.mem_append_left _ h)))
theorem q_tk4 {w : Cond} (h : w ∈ tables_1_4) : w ∈ lw_tbl := List.mem_append_right _ (show w ∈ tables_1 from List.mem_append_right _ (List.mem_append_right _ (List.mem_append_right _ (List.mem_append_left _ h))))
theorem q_tk5 {w : Cond} (h : w ∈ tables_1_5) : w ∈ lw_tbl := List.mem_append_right _ (show w ∈ tables_1 from List.mem_append_right _ (List.mem_append_right _ (List.mem_append_right _ (List.mem_append_right _ (List.mem_append_left _ h)))))
theorem q_tk6 {w : Cond} (h : w ∈ tables_1_6) : w ∈ lw_tbl := List.mem_append_right _ (show w ∈ tables_1 from List.mem_append_right _ (List.mem_append_right _ (List.mem_append_right _ (List.mem_append_right _ (List.mem_append_right _ (List.mem_append_left _ h))))))
theorem q_tk7 {w : Cond} (h : w ∈ tables_1_7) : w ∈ lw_tbl := List.mem_append_right _ (show w ∈ tables_1 from List.mem_append_right _ (List.mem_append_right _ (List.mem_append_right _ (List.mem_append_right _ (List.mem_append_right _ (List.mem_append_right _ (List.mem_append_left _ h)))))))
theorem q_tk8 {w : Cond} (h : w ∈ tables_1_8) : w ∈ lw_tbl := List.mem_append_right _ (show w ∈ tables_1 from List.mem_append_right _ (List.mem_append_right _ (List.mem_append_right _ (List.mem_append_right _ (List.mem_append_right _ (List.mem_append_right _ (List.mem_append_right _ (h))))))))
def q_all : List q_MI := [mX0_init, mX0_read, mX0_seen, mX0_masts, mX0_choose, mX0_worst, mX0_together, mX0_best, mX0_chosen, mX1_init, mX1_begin, mX1_allow, mX1_solve, mX1_lookAhead, mX1_take, mX1_leastFrom, mX1_with, mX1_firstBest, mX1_keep, mX1_kept, mX1_pairs, mX1_sum, mX1_partner, mX2_pass, mX2_goOn, mX2_flyOn, mX2_fieldOf, mX2_meet, mX2_land, mX2_sound, mX2_hits, mX3_isCell, mX3_apart, mX3_reaches, mX3_flown, mX3_nearer, mX3_stepped, mX3_sign, mX3_climbed, mX4_init, mX4_read, mX4_lay, mX4_day, mX4_foresee, mX4_canFill, mX4_firstSet, mX5_init, mX5_copyFrom, mX5_make, mX5_inForce, mX5_worth, mX5_apply, mX5_push, mX5_peek, mX5_joined, mX6_init, mX6_has, mX6_bits, mX6_size, mX6_wanting, mX6_lay, mX6_get, mX6_write, mX6_copy, mX7_init, mX7_size, mX7_has, mX7_isFull, mX7_add, mX7_clear, mX7_get, mX7_write, mX7_indexOf, mX7_total, mX7_copyFrom, mX8_init, mX8_read, mX8_place, mX8_size, mX8_code, mX8_level, mX8_joins, mX8_part, mX8_turned, mX8_bracketed, mX8_number, mX8_next, mX8_isDigit, mX8_nameOf, mX8_emit, mX9_init, mX9_begin, mX9_utter, mX9_own, mX9_from, mX9_bodyFrom, mX9_enemyBody, mX9_friendBody, mX10_init, mX10_copyFrom, mX10_isSeen, mX10_isHeard, mX10_isWatched, mX10_cellsSeen, mX10_addPlot, mX10_mayBeFollowed, mX10_plotsApart, mX10_addFlyer, mX10_above, mX10_isA, mX10_stands, mX10_howMany, mX10_nearestRaid, mX10_manyOfRaids, mX10_wails, mX10_isHostile, mX10_keptDown, mX10_isArmed, mX10_minutesToMeet, mX10_meets, mX11_init, mX11_mast, mX11_jam, mX11_post, mX11_set, mX11_watched, mX11_field, mX11_town, mX11_townIs, mX11_plot, mX11_plots, mX11_addPlots, mX11_plotIs, mX11_follows, mX11_tracking, mX11_matchPlots, mX11_judge, mX11_tracksOf, mX11_arePlots, mX11_isIn, mX11_isTold, mX11_flyer, mX11_flight, mX11_load, mX11_as, mX11_flyerIs, mX11_answer, mX11_send, mX11_notSendable, mX11_back, mX11_fill, mX11_feed, mX11_rule, mX11_force, mX11_says, mX11_meeting, mX11_sending, mX11_listLeast, mX11_matchRaids, mX11_pilots, mX11_laying, mX11_minutes, mX11_ahead, mX11_voice, mX11_trace, mX11_sheet, mX11_put, mX11_move, mX11_image, mX11_restore, mX11_tell, mX11_check, mX11_firstUntrue, mX11_count, mX11_found, mX11_finding, mX11_numberOrFull, mX11_changed, mX11_within, mX12_finds, mX12_in, mX12_isCell, mX12_init, mX12_copies, mX12_copiesAll, mX12_image, mX12_restore, mX12_size, mX12_greater, mX12_lesser, mX12_apart, mX12_isOf, mX12_mast, mX12_jam, mX12_post, mX12_set, mX12_isWithin, mX12_isSeen, mX12_isHeard, mX12_watch, mX12_watched, mX12_field, mX12_town, mX12_isRaid, mX12_nearest, mX12_townIs, mX12_makes, mX12_plot, mX12_isSheet, mX12_plots, mX12_plotIs, mX12_mayFollow, mX12_follows, mX12_takes, mX12_ones, mX12_isTold, mX12_tracks, mX12_tracking, mX12_judge, mX12_isFlight, mX12_comes, mX12_flyer, mX12_flight, mX12_isUnder, mX12_as, mX12_isHostile, mX12_flyerIs, mX12_answer, mX12_send, mX12_back, mX12_fill, mX12_feed, mX12_byteHere, mX12_does, mX12_may, mX12_nameOf, mX12_readT, mX12_readA, mX12_readB, mX12_readS, mX12_readP, mX12_readQ, mX12_rule, mX12_inForce, mX12_force, mX12_both, mX12_worth, mX12_says, mX12_onward, mX12_nearer, mX12_steps, mX12_goes, mX12_flies, mX12_allRaids, mX12_sounds, mX12_ends, mX12_minutes, mX12_ahead, mX12_meets, mX12_meeting, mX12_inState, mX12_sends, mX12_findSending, mX12_sending, mX12_canFly, mX12_pilots, mX12_seenBy, mX12_areMasts, mX12_areCells, mX12_laying, mX12_ran, mX12_plainGo, mX12_flightGo, mX12_go, mX12_plainJoin, mX12_join, mX12_plainBurn, mX12_friendBurn, mX12_burn, mX12_plainTell, mX12_tells, mX12_voice, mX12_trace, mX12_sheet, mX12_put, mX12_move, mX12_tell, mX12_check, mX12_allOf, mX12_raidsUp, mX12_seenCells, mX12_count, mX12_found, mJ6_bitCount_0f7a4, mJ0_length_8abf5, mJ0_indexOf_0f7a4, mJ0_indexOf_7cf53, mJ0_coder_7d493, mJ0_isLatin1_aae02, mJ1_canEncode_9a6ad, mJ1_indexOf_4cfef, mJ1_indexOfChar_4cfef]
def q_mC (q : q_MI) : Cond := .code q.2.1 q.2.2.1 q.2.2.2.1 q.2.2.2.2
theorem wX0_init : q_mC mX0_init ∈ lw_tbl := q_tk1 (List.mem_of_getElem? (i := 236) rfl)
theorem wX0_read : q_mC mX0_read ∈ lw_tbl := q_tk4 (List.mem_of_getElem? (i := 208) rfl)
theorem wX0_seen : q_mC mX0_seen ∈ lw_tbl := q_tk4 (List.mem_of_getElem? (i := 216) rfl)
theorem wX0_masts : q_mC mX0_masts ∈ lw_tbl := q_tk4 (List.mem_of_getElem? (i := 222) rfl)
theorem wX0_choose : q_mC mX0_choose ∈ lw_tbl := q_tk4 (List.mem_of_getElem? (i := 227) rfl)
theorem wX0_worst : q_mC mX0_worst ∈ lw_tbl := q_tk4 (List.mem_of_getElem? (i := 232) rfl)
theorem wX0_together : q_mC mX0_together ∈ lw_tbl := q_tk4 (List.mem_of_getElem? (i := 236) rfl)
theorem wX0_best : q_mC mX0_best ∈ lw_tbl := q_tk5 (List.mem_of_getElem? (i := 2) rfl)
theorem wX0_chosen : q_mC mX0_chosen ∈ lw_tbl := q_tk5 (List.mem_of_getElem? (i := 6) rfl)
theorem wX1_init : q_mC mX1_init ∈ lw_tbl := q_tk1 (List.mem_of_getElem? (i := 180) rfl)
theorem wX1_begin : q_mC mX1_begin ∈ lw_tbl := q_tk3 (List.mem_of_getElem? (i := 19) rfl)
theorem wX1_allow : q_mC mX1_allow ∈ lw_tbl := q_tk3 (List.mem_of_getElem? (i := 30) rfl)
theorem wX1_solve : q_mC mX1_solve ∈ lw_tbl := q_tk3 (List.mem_of_getElem? (i := 34) rfl)
theorem wX1_lookAhead : q_mC mX1_lookAhead ∈ lw_tbl := q_tk3 (List.mem_of_getElem? (i := 38) rfl)
theorem wX1_take : q_mC mX1_take ∈ lw_tbl := q_tk3 (List.mem_of_getElem? (i := 64) rfl)
theorem wX1_leastFrom : q_mC mX1_leastFrom ∈ lw_tbl := q_tk3 (List.mem_of_getElem? (i := 44) rfl)
theorem wX1_with : q_mC mX1_with ∈ lw_tbl := q_tk3 (List.mem_of_getElem? (i := 54) rfl)
theorem wX1_firstBest : q_mC mX1_firstBest ∈ lw_tbl := q_tk3 (List.mem_of_getElem? (i := 68) rfl)
theorem wX1_keep : q_mC mX1_keep ∈ lw_tbl := q_tk3 (List.mem_of_getElem? (i := 60) rfl)
theorem wX1_kept : q_mC mX1_kept ∈ lw_tbl := q_tk3 (List.mem_of_getElem? (i := 49) rfl)
theorem wX1_pairs : q_mC mX1_pairs ∈ lw_tbl := q_tk3 (List.mem_of_getElem? (i := 72) rfl)
theorem wX1_sum : q_mC mX1_sum ∈ lw_tbl := q_tk3 (List.mem_of_getElem? (i := 76) rfl)
theorem wX1_partner : q_mC mX1_partner ∈ lw_tbl := q_tk3 (List.mem_of_getElem? (i := 85) rfl)
theorem wX2_pass : q_mC mX2_pass ∈ lw_tbl := q_tk5 (List.mem_of_getElem? (i := 13) rfl)
theorem wX2_goOn : q_mC mX2_goOn ∈ lw_tbl := q_tk5 (List.mem_of_getElem? (i := 19) rfl)
theorem wX2_flyOn : q_mC mX2_flyOn ∈ lw_tbl := q_tk5 (List.mem_of_getElem? (i := 25) rfl)
theorem wX2_fieldOf : q_mC mX2_fieldOf ∈ lw_tbl := q_tk5 (List.mem_of_getElem? (i := 29) rfl)
theorem wX2_meet : q_mC mX2_meet ∈ lw_tbl := q_tk5 (List.mem_of_getElem? (i := 34) rfl)
theorem wX2_land : q_mC mX2_land ∈ lw_tbl := q_tk5 (List.mem_of_getElem? (i := 39) rfl)
theorem wX2_sound : q_mC mX2_sound ∈ lw_tbl := q_tk5 (List.mem_of_getElem? (i := 42) rfl)
theorem wX2_hits : q_mC mX2_hits ∈ lw_tbl := q_tk5 (List.mem_of_getElem? (i := 54) rfl)
theorem wX3_isCell : q_mC mX3_isCell ∈ lw_tbl := q_tk2 (List.mem_of_getElem? (i := 72) rfl)
theorem wX3_apart : q_mC mX3_apart ∈ lw_tbl := q_tk2 (List.mem_of_getElem? (i := 128) rfl)
theorem wX3_reaches : q_mC mX3_reaches ∈ lw_tbl := q_tk2 (List.mem_of_getElem? (i := 121) rfl)
theorem wX3_flown : q_mC mX3_flown ∈ lw_tbl := q_tk4 (List.mem_of_getElem? (i := 119) rfl)
theorem wX3_nearer : q_mC mX3_nearer ∈ lw_tbl := q_tk4 (List.mem_of_getElem? (i := 131) rfl)
theorem wX3_stepped : q_mC mX3_stepped ∈ lw_tbl := q_tk4 (List.mem_of_getElem? (i := 134) rfl)
theorem wX3_sign : q_mC mX3_sign ∈ lw_tbl := q_tk4 (List.mem_of_getElem? (i := 137) rfl)
theorem wX3_climbed : q_mC mX3_climbed ∈ lw_tbl := q_tk4 (List.mem_of_getElem? (i := 127) rfl)
theorem wX4_init : q_mC mX4_init ∈ lw_tbl := q_tk1 (List.mem_of_getElem? (i := 218) rfl)
theorem wX4_read : q_mC mX4_read ∈ lw_tbl := q_tk4 (List.mem_of_getElem? (i := 170) rfl)
theorem wX4_lay : q_mC mX4_lay ∈ lw_tbl := q_tk4 (List.mem_of_getElem? (i := 179) rfl)
theorem wX4_day : q_mC mX4_day ∈ lw_tbl := q_tk4 (List.mem_of_getElem? (i := 199) rfl)
theorem wX4_foresee : q_mC mX4_foresee ∈ lw_tbl := q_tk4 (List.mem_of_getElem? (i := 183) rfl)
theorem wX4_canFill : q_mC mX4_canFill ∈ lw_tbl := q_tk4 (List.mem_of_getElem? (i := 188) rfl)
theorem wX4_firstSet : q_mC mX4_firstSet ∈ lw_tbl := q_tk4 (List.mem_of_getElem? (i := 194) rfl)
theorem wX5_init : q_mC mX5_init ∈ lw_tbl := q_tk1 (List.mem_of_getElem? (i := 66) rfl)
theorem wX5_copyFrom : q_mC mX5_copyFrom ∈ lw_tbl := q_tk5 (List.mem_of_getElem? (i := 73) rfl)
theorem wX5_make : q_mC mX5_make ∈ lw_tbl := q_tk4 (List.mem_of_getElem? (i := 82) rfl)
theorem wX5_inForce : q_mC mX5_inForce ∈ lw_tbl := q_tk3 (List.mem_of_getElem? (i := 127) rfl)
theorem wX5_worth : q_mC mX5_worth ∈ lw_tbl := q_tk3 (List.mem_of_getElem? (i := 133) rfl)
theorem wX5_apply : q_mC mX5_apply ∈ lw_tbl := q_tk3 (List.mem_of_getElem? (i := 138) rfl)
theorem wX5_push : q_mC mX5_push ∈ lw_tbl := q_tk3 (List.mem_of_getElem? (i := 142) rfl)
theorem wX5_peek : q_mC mX5_peek ∈ lw_tbl := q_tk3 (List.mem_of_getElem? (i := 146) rfl)
theorem wX5_joined : q_mC mX5_joined ∈ lw_tbl := q_tk3 (List.mem_of_getElem? (i := 149) rfl)
theorem wX6_init : q_mC mX6_init ∈ lw_tbl := q_tk1 (List.mem_of_getElem? (i := 160) rfl)
theorem wX6_has : q_mC mX6_has ∈ lw_tbl := q_tk2 (List.mem_of_getElem? (i := 197) rfl)
theorem wX6_bits : q_mC mX6_bits ∈ lw_tbl := q_tk2 (List.mem_of_getElem? (i := 202) rfl)
theorem wX6_size : q_mC mX6_size ∈ lw_tbl := q_tk2 (List.mem_of_getElem? (i := 207) rfl)
theorem wX6_wanting : q_mC mX6_wanting ∈ lw_tbl := q_tk2 (List.mem_of_getElem? (i := 193) rfl)
theorem wX6_lay : q_mC mX6_lay ∈ lw_tbl := q_tk5 (List.mem_of_getElem? (i := 122) rfl)
theorem wX6_get : q_mC mX6_get ∈ lw_tbl := q_tk2 (List.mem_of_getElem? (i := 211) rfl)
theorem wX6_write : q_mC mX6_write ∈ lw_tbl := q_tk5 (List.mem_of_getElem? (i := 131) rfl)
theorem wX6_copy : q_mC mX6_copy ∈ lw_tbl := q_tk5 (List.mem_of_getElem? (i := 140) rfl)
theorem wX7_init : q_mC mX7_init ∈ lw_tbl := q_tk1 (List.mem_of_getElem? (i := 40) rfl)
theorem wX7_size : q_mC mX7_size ∈ lw_tbl := q_tk2 (List.mem_of_getElem? (i := 117) rfl)
theorem wX7_has : q_mC mX7_has ∈ lw_tbl := q_tk2 (List.mem_of_getElem? (i := 90) rfl)
theorem wX7_isFull : q_mC mX7_isFull ∈ lw_tbl := q_tk3 (List.mem_of_getElem? (i := 186) rfl)
theorem wX7_add : q_mC mX7_add ∈ lw_tbl := q_tk1 (List.mem_of_getElem? (i := 167) rfl)
theorem wX7_clear : q_mC mX7_clear ∈ lw_tbl := q_tk3 (List.mem_of_getElem? (i := 23) rfl)
theorem wX7_get : q_mC mX7_get ∈ lw_tbl := q_tk2 (List.mem_of_getElem? (i := 97) rfl)
theorem wX7_write : q_mC mX7_write ∈ lw_tbl := q_tk1 (List.mem_of_getElem? (i := 171) rfl)
theorem wX7_indexOf : q_mC mX7_indexOf ∈ lw_tbl := q_tk3 (List.mem_of_getElem? (i := 80) rfl)
theorem wX7_total : q_mC mX7_total ∈ lw_tbl := q_tk5 (List.mem_of_getElem? (i := 170) rfl)
theorem wX7_copyFrom : q_mC mX7_copyFrom ∈ lw_tbl := q_tk5 (List.mem_of_getElem? (i := 66) rfl)
theorem wX8_init : q_mC mX8_init ∈ lw_tbl := q_tk1 (List.mem_of_getElem? (i := 138) rfl)
theorem wX8_read : q_mC mX8_read ∈ lw_tbl := q_tk3 (List.mem_of_getElem? (i := 190) rfl)
theorem wX8_place : q_mC mX8_place ∈ lw_tbl := q_tk4 (List.mem_of_getElem? (i := 96) rfl)
theorem wX8_size : q_mC mX8_size ∈ lw_tbl := q_tk4 (List.mem_of_getElem? (i := 88) rfl)
theorem wX8_code : q_mC mX8_code ∈ lw_tbl := q_tk4 (List.mem_of_getElem? (i := 92) rfl)
theorem wX8_level : q_mC mX8_level ∈ lw_tbl := q_tk3 (List.mem_of_getElem? (i := 194) rfl)
theorem wX8_joins : q_mC mX8_joins ∈ lw_tbl := q_tk4 (List.mem_of_getElem? (i := 76) rfl)
theorem wX8_part : q_mC mX8_part ∈ lw_tbl := q_tk3 (List.mem_of_getElem? (i := 198) rfl)
theorem wX8_turned : q_mC mX8_turned ∈ lw_tbl := q_tk4 (List.mem_of_getElem? (i := 69) rfl)
theorem wX8_bracketed : q_mC mX8_bracketed ∈ lw_tbl := q_tk4 (List.mem_of_getElem? (i := 73) rfl)
theorem wX8_number : q_mC mX8_number ∈ lw_tbl := q_tk3 (List.mem_of_getElem? (i := 212) rfl)
theorem wX8_next : q_mC mX8_next ∈ lw_tbl := q_tk3 (List.mem_of_getElem? (i := 202) rfl)
theorem wX8_isDigit : q_mC mX8_isDigit ∈ lw_tbl := q_tk3 (List.mem_of_getElem? (i := 207) rfl)
theorem wX8_nameOf : q_mC mX8_nameOf ∈ lw_tbl := q_tk3 (List.mem_of_getElem? (i := 220) rfl)
theorem wX8_emit : q_mC mX8_emit ∈ lw_tbl := q_tk3 (List.mem_of_getElem? (i := 216) rfl)
theorem wX9_init : q_mC mX9_init ∈ lw_tbl := q_tk2 (List.mem_of_getElem? (i := 14) rfl)
theorem wX9_begin : q_mC mX9_begin ∈ lw_tbl := q_tk5 (List.mem_of_getElem? (i := 82) rfl)
theorem wX9_utter : q_mC mX9_utter ∈ lw_tbl := q_tk5 (List.mem_of_getElem? (i := 87) rfl)
theorem wX9_own : q_mC mX9_own ∈ lw_tbl := q_tk5 (List.mem_of_getElem? (i := 91) rfl)
theorem wX9_from : q_mC mX9_from ∈ lw_tbl := q_tk5 (List.mem_of_getElem? (i := 95) rfl)
theorem wX9_bodyFrom : q_mC mX9_bodyFrom ∈ lw_tbl := q_tk5 (List.mem_of_getElem? (i := 98) rfl)
theorem wX9_enemyBody : q_mC mX9_enemyBody ∈ lw_tbl := q_tk5 (List.mem_of_getElem? (i := 106) rfl)
theorem wX9_friendBody : q_mC mX9_friendBody ∈ lw_tbl := q_tk5 (List.mem_of_getElem? (i := 110) rfl)
theorem wX10_init : q_mC mX10_init ∈ lw_tbl := q_tk1 (List.mem_of_getElem? (i := 34) rfl)
theorem wX10_copyFrom : q_mC mX10_copyFrom ∈ lw_tbl := q_tk5 (List.mem_of_getElem? (i := 62) rfl)
theorem wX10_isSeen : q_mC mX10_isSeen ∈ lw_tbl := q_tk2 (List.mem_of_getElem? (i := 113) rfl)
theorem wX10_isHeard : q_mC mX10_isHeard ∈ lw_tbl := q_tk2 (List.mem_of_getElem? (i := 125) rfl)
theorem wX10_isWatched : q_mC mX10_isWatched ∈ lw_tbl := q_tk2 (List.mem_of_getElem? (i := 177) rfl)
theorem wX10_cellsSeen : q_mC mX10_cellsSeen ∈ lw_tbl := q_tk5 (List.mem_of_getElem? (i := 174) rfl)
theorem wX10_addPlot : q_mC mX10_addPlot ∈ lw_tbl := q_tk2 (List.mem_of_getElem? (i := 183) rfl)
theorem wX10_mayBeFollowed : q_mC mX10_mayBeFollowed ∈ lw_tbl := q_tk2 (List.mem_of_getElem? (i := 230) rfl)
theorem wX10_plotsApart : q_mC mX10_plotsApart ∈ lw_tbl := q_tk2 (List.mem_of_getElem? (i := 234) rfl)
theorem wX10_addFlyer : q_mC mX10_addFlyer ∈ lw_tbl := q_tk3 (List.mem_of_getElem? (i := 102) rfl)
theorem wX10_above : q_mC mX10_above ∈ lw_tbl := q_tk2 (List.mem_of_getElem? (i := 161) rfl)
theorem wX10_isA : q_mC mX10_isA ∈ lw_tbl := q_tk2 (List.mem_of_getElem? (i := 156) rfl)
theorem wX10_stands : q_mC mX10_stands ∈ lw_tbl := q_tk2 (List.mem_of_getElem? (i := 165) rfl)
theorem wX10_howMany : q_mC mX10_howMany ∈ lw_tbl := q_tk4 (List.mem_of_getElem? (i := 156) rfl)
theorem wX10_nearestRaid : q_mC mX10_nearestRaid ∈ lw_tbl := q_tk2 (List.mem_of_getElem? (i := 152) rfl)
theorem wX10_manyOfRaids : q_mC mX10_manyOfRaids ∈ lw_tbl := q_tk5 (List.mem_of_getElem? (i := 51) rfl)
theorem wX10_wails : q_mC mX10_wails ∈ lw_tbl := q_tk5 (List.mem_of_getElem? (i := 46) rfl)
theorem wX10_isHostile : q_mC mX10_isHostile ∈ lw_tbl := q_tk3 (List.mem_of_getElem? (i := 123) rfl)
theorem wX10_keptDown : q_mC mX10_keptDown ∈ lw_tbl := q_tk4 (List.mem_of_getElem? (i := 160) rfl)
theorem wX10_isArmed : q_mC mX10_isArmed ∈ lw_tbl := q_tk3 (List.mem_of_getElem? (i := 166) rfl)
theorem wX10_minutesToMeet : q_mC mX10_minutesToMeet ∈ lw_tbl := q_tk4 (List.mem_of_getElem? (i := 115) rfl)
theorem wX10_meets : q_mC mX10_meets ∈ lw_tbl := q_tk4 (List.mem_of_getElem? (i := 140) rfl)
theorem wX11_init : q_mC mX11_init ∈ lw_tbl := q_tk1 (List.mem_of_getElem? (i := 26) rfl)
theorem wX11_mast : q_mC mX11_mast ∈ lw_tbl := q_tk2 (List.mem_of_getElem? (i := 69) rfl)
theorem wX11_jam : q_mC mX11_jam ∈ lw_tbl := q_tk2 (List.mem_of_getElem? (i := 86) rfl)
theorem wX11_post : q_mC mX11_post ∈ lw_tbl := q_tk2 (List.mem_of_getElem? (i := 101) rfl)
theorem wX11_set : q_mC mX11_set ∈ lw_tbl := q_tk2 (List.mem_of_getElem? (i := 105) rfl)
theorem wX11_watched : q_mC mX11_watched ∈ lw_tbl := q_tk2 (List.mem_of_getElem? (i := 109) rfl)
theorem wX11_field : q_mC mX11_field ∈ lw_tbl := q_tk2 (List.mem_of_getElem? (i := 136) rfl)
theorem wX11_town : q_mC mX11_town ∈ lw_tbl := q_tk2 (List.mem_of_getElem? (i := 144) rfl)
theorem wX11_townIs : q_mC mX11_townIs ∈ lw_tbl := q_tk2 (List.mem_of_getElem? (i := 148) rfl)
theorem wX11_plot : q_mC mX11_plot ∈ lw_tbl := q_tk2 (List.mem_of_getElem? (i := 170) rfl)
theorem wX11_plots : q_mC mX11_plots ∈ lw_tbl := q_tk2 (List.mem_of_getElem? (i := 189) rfl)
theorem wX11_addPlots : q_mC mX11_addPlots ∈ lw_tbl := q_tk2 (List.mem_of_getElem? (i := 218) rfl)
theorem wX11_plotIs : q_mC mX11_plotIs ∈ lw_tbl := q_tk2 (List.mem_of_getElem? (i := 222) rfl)
theorem wX11_follows : q_mC mX11_follows ∈ lw_tbl := q_tk2 (List.mem_of_getElem? (i := 226) rfl)
theorem wX11_tracking : q_mC mX11_tracking ∈ lw_tbl := q_tk2 (List.mem_of_getElem? (i := 238) rfl)
theorem wX11_matchPlots : q_mC mX11_matchPlots ∈ lw_tbl := q_tk3 (List.mem_of_getElem? (i := 15) rfl)
theorem wX11_judge : q_mC mX11_judge ∈ lw_tbl := q_tk3 (List.mem_of_getElem? (i := 90) rfl)
theorem wX11_tracksOf : q_mC mX11_tracksOf ∈ lw_tbl := q_tk3 (List.mem_of_getElem? (i := 94) rfl)
theorem wX11_arePlots : q_mC mX11_arePlots ∈ lw_tbl := q_tk3 (List.mem_of_getElem? (i := 2) rfl)
theorem wX11_isIn : q_mC mX11_isIn ∈ lw_tbl := q_tk3 (List.mem_of_getElem? (i := 11) rfl)
theorem wX11_isTold : q_mC mX11_isTold ∈ lw_tbl := q_tk2 (List.mem_of_getElem? (i := 173) rfl)
theorem wX11_flyer : q_mC mX11_flyer ∈ lw_tbl := q_tk3 (List.mem_of_getElem? (i := 98) rfl)
theorem wX11_flight : q_mC mX11_flight ∈ lw_tbl := q_tk3 (List.mem_of_getElem? (i := 106) rfl)
theorem wX11_load : q_mC mX11_load ∈ lw_tbl := q_tk3 (List.mem_of_getElem? (i := 110) rfl)
theorem wX11_as : q_mC mX11_as ∈ lw_tbl := q_tk3 (List.mem_of_getElem? (i := 114) rfl)
theorem wX11_flyerIs : q_mC mX11_flyerIs ∈ lw_tbl := q_tk3 (List.mem_of_getElem? (i := 119) rfl)
theorem wX11_answer : q_mC mX11_answer ∈ lw_tbl := q_tk3 (List.mem_of_getElem? (i := 153) rfl)
theorem wX11_send : q_mC mX11_send ∈ lw_tbl := q_tk3 (List.mem_of_getElem? (i := 157) rfl)
theorem wX11_notSendable : q_mC mX11_notSendable ∈ lw_tbl := q_tk3 (List.mem_of_getElem? (i := 161) rfl)
theorem wX11_back : q_mC mX11_back ∈ lw_tbl := q_tk3 (List.mem_of_getElem? (i := 170) rfl)
theorem wX11_fill : q_mC mX11_fill ∈ lw_tbl := q_tk3 (List.mem_of_getElem? (i := 174) rfl)
theorem wX11_feed : q_mC mX11_feed ∈ lw_tbl := q_tk3 (List.mem_of_getElem? (i := 178) rfl)
theorem wX11_rule : q_mC mX11_rule ∈ lw_tbl := q_tk3 (List.mem_of_getElem? (i := 182) rfl)
theorem wX11_force : q_mC mX11_force ∈ lw_tbl := q_tk4 (List.mem_of_getElem? (i := 101) rfl)
theorem wX11_says : q_mC mX11_says ∈ lw_tbl := q_tk4 (List.mem_of_getElem? (i := 106) rfl)
theorem wX11_meeting : q_mC mX11_meeting ∈ lw_tbl := q_tk4 (List.mem_of_getElem? (i := 111) rfl)
theorem wX11_sending : q_mC mX11_sending ∈ lw_tbl := q_tk4 (List.mem_of_getElem? (i := 144) rfl)
theorem wX11_listLeast : q_mC mX11_listLeast ∈ lw_tbl := q_tk4 (List.mem_of_getElem? (i := 148) rfl)
theorem wX11_matchRaids : q_mC mX11_matchRaids ∈ lw_tbl := q_tk4 (List.mem_of_getElem? (i := 152) rfl)
theorem wX11_pilots : q_mC mX11_pilots ∈ lw_tbl := q_tk4 (List.mem_of_getElem? (i := 166) rfl)
theorem wX11_laying : q_mC mX11_laying ∈ lw_tbl := q_tk4 (List.mem_of_getElem? (i := 203) rfl)
theorem wX11_minutes : q_mC mX11_minutes ∈ lw_tbl := q_tk5 (List.mem_of_getElem? (i := 10) rfl)
theorem wX11_ahead : q_mC mX11_ahead ∈ lw_tbl := q_tk5 (List.mem_of_getElem? (i := 58) rfl)
theorem wX11_voice : q_mC mX11_voice ∈ lw_tbl := q_tk5 (List.mem_of_getElem? (i := 78) rfl)
theorem wX11_trace : q_mC mX11_trace ∈ lw_tbl := q_tk5 (List.mem_of_getElem? (i := 114) rfl)
theorem wX11_sheet : q_mC mX11_sheet ∈ lw_tbl := q_tk5 (List.mem_of_getElem? (i := 118) rfl)
theorem wX11_put : q_mC mX11_put ∈ lw_tbl := q_tk5 (List.mem_of_getElem? (i := 127) rfl)
theorem wX11_move : q_mC mX11_move ∈ lw_tbl := q_tk5 (List.mem_of_getElem? (i := 135) rfl)
theorem wX11_image : q_mC mX11_image ∈ lw_tbl := q_tk5 (List.mem_of_getElem? (i := 146) rfl)
theorem wX11_restore : q_mC mX11_restore ∈ lw_tbl := q_tk5 (List.mem_of_getElem? (i := 150) rfl)
theorem wX11_tell : q_mC mX11_tell ∈ lw_tbl := q_tk5 (List.mem_of_getElem? (i := 154) rfl)
theorem wX11_check : q_mC mX11_check ∈ lw_tbl := q_tk5 (List.mem_of_getElem? (i := 158) rfl)
theorem wX11_firstUntrue : q_mC mX11_firstUntrue ∈ lw_tbl := q_tk5 (List.mem_of_getElem? (i := 162) rfl)
theorem wX11_count : q_mC mX11_count ∈ lw_tbl := q_tk5 (List.mem_of_getElem? (i := 166) rfl)
theorem wX11_found : q_mC mX11_found ∈ lw_tbl := q_tk5 (List.mem_of_getElem? (i := 178) rfl)
theorem wX11_finding : q_mC mX11_finding ∈ lw_tbl := q_tk2 (List.mem_of_getElem? (i := 79) rfl)
theorem wX11_numberOrFull : q_mC mX11_numberOrFull ∈ lw_tbl := q_tk2 (List.mem_of_getElem? (i := 140) rfl)
theorem wX11_changed : q_mC mX11_changed ∈ lw_tbl := q_tk2 (List.mem_of_getElem? (i := 93) rfl)
theorem wX11_within : q_mC mX11_within ∈ lw_tbl := q_tk2 (List.mem_of_getElem? (i := 75) rfl)
theorem wX12_finds : q_mC mX12_finds ∈ lw_tbl := q_tk6 (List.mem_of_getElem? (i := 181) rfl)
theorem wX12_in : q_mC mX12_in ∈ lw_tbl := q_tk6 (List.mem_of_getElem? (i := 192) rfl)
theorem wX12_isCell : q_mC mX12_isCell ∈ lw_tbl := q_tk6 (List.mem_of_getElem? (i := 189) rfl)
theorem wX12_init : q_mC mX12_init ∈ lw_tbl := q_tk5 (List.mem_of_getElem? (i := 183) rfl)
theorem wX12_copies : q_mC mX12_copies ∈ lw_tbl := q_tk6 (List.mem_of_getElem? (i := 172) rfl)
theorem wX12_copiesAll : q_mC mX12_copiesAll ∈ lw_tbl := q_tk6 (List.mem_of_getElem? (i := 168) rfl)
theorem wX12_image : q_mC mX12_image ∈ lw_tbl := q_tk6 (List.mem_of_getElem? (i := 164) rfl)
theorem wX12_restore : q_mC mX12_restore ∈ lw_tbl := q_tk6 (List.mem_of_getElem? (i := 176) rfl)
theorem wX12_size : q_mC mX12_size ∈ lw_tbl := q_tk6 (List.mem_of_getElem? (i := 235) rfl)
theorem wX12_greater : q_mC mX12_greater ∈ lw_tbl := q_tk6 (List.mem_of_getElem? (i := 238) rfl)
theorem wX12_lesser : q_mC mX12_lesser ∈ lw_tbl := q_tk7 (List.mem_of_getElem? (i := 21) rfl)
theorem wX12_apart : q_mC mX12_apart ∈ lw_tbl := q_tk6 (List.mem_of_getElem? (i := 232) rfl)
theorem wX12_isOf : q_mC mX12_isOf ∈ lw_tbl := q_tk6 (List.mem_of_getElem? (i := 202) rfl)
theorem wX12_mast : q_mC mX12_mast ∈ lw_tbl := q_tk6 (List.mem_of_getElem? (i := 186) rfl)
theorem wX12_jam : q_mC mX12_jam ∈ lw_tbl := q_tk6 (List.mem_of_getElem? (i := 198) rfl)
theorem wX12_post : q_mC mX12_post ∈ lw_tbl := q_tk6 (List.mem_of_getElem? (i := 206) rfl)
theorem wX12_set : q_mC mX12_set ∈ lw_tbl := q_tk6 (List.mem_of_getElem? (i := 210) rfl)
theorem wX12_isWithin : q_mC mX12_isWithin ∈ lw_tbl := q_tk6 (List.mem_of_getElem? (i := 225) rfl)
theorem wX12_isSeen : q_mC mX12_isSeen ∈ lw_tbl := q_tk6 (List.mem_of_getElem? (i := 222) rfl)
theorem wX12_isHeard : q_mC mX12_isHeard ∈ lw_tbl := q_tk6 (List.mem_of_getElem? (i := 229) rfl)
theorem wX12_watch : q_mC mX12_watch ∈ lw_tbl := q_tk6 (List.mem_of_getElem? (i := 218) rfl)
theorem wX12_watched : q_mC mX12_watched ∈ lw_tbl := q_tk6 (List.mem_of_getElem? (i := 214) rfl)
theorem wX12_field : q_mC mX12_field ∈ lw_tbl := q_tk7 (List.mem_of_getElem? (i := 2) rfl)
theorem wX12_town : q_mC mX12_town ∈ lw_tbl := q_tk7 (List.mem_of_getElem? (i := 6) rfl)
theorem wX12_isRaid : q_mC mX12_isRaid ∈ lw_tbl := q_tk7 (List.mem_of_getElem? (i := 18) rfl)
theorem wX12_nearest : q_mC mX12_nearest ∈ lw_tbl := q_tk7 (List.mem_of_getElem? (i := 14) rfl)
theorem wX12_townIs : q_mC mX12_townIs ∈ lw_tbl := q_tk7 (List.mem_of_getElem? (i := 10) rfl)
theorem wX12_makes : q_mC mX12_makes ∈ lw_tbl := q_tk7 (List.mem_of_getElem? (i := 30) rfl)
theorem wX12_plot : q_mC mX12_plot ∈ lw_tbl := q_tk7 (List.mem_of_getElem? (i := 25) rfl)
theorem wX12_isSheet : q_mC mX12_isSheet ∈ lw_tbl := q_tk7 (List.mem_of_getElem? (i := 37) rfl)
theorem wX12_plots : q_mC mX12_plots ∈ lw_tbl := q_tk7 (List.mem_of_getElem? (i := 34) rfl)
theorem wX12_plotIs : q_mC mX12_plotIs ∈ lw_tbl := q_tk7 (List.mem_of_getElem? (i := 42) rfl)
theorem wX12_mayFollow : q_mC mX12_mayFollow ∈ lw_tbl := q_tk7 (List.mem_of_getElem? (i := 50) rfl)
theorem wX12_follows : q_mC mX12_follows ∈ lw_tbl := q_tk7 (List.mem_of_getElem? (i := 46) rfl)
theorem wX12_takes : q_mC mX12_takes ∈ lw_tbl := q_tk7 (List.mem_of_getElem? (i := 65) rfl)
theorem wX12_ones : q_mC mX12_ones ∈ lw_tbl := q_tk7 (List.mem_of_getElem? (i := 61) rfl)
theorem wX12_isTold : q_mC mX12_isTold ∈ lw_tbl := q_tk7 (List.mem_of_getElem? (i := 58) rfl)
theorem wX12_tracks : q_mC mX12_tracks ∈ lw_tbl := q_tk7 (List.mem_of_getElem? (i := 70) rfl)
theorem wX12_tracking : q_mC mX12_tracking ∈ lw_tbl := q_tk7 (List.mem_of_getElem? (i := 54) rfl)
theorem wX12_judge : q_mC mX12_judge ∈ lw_tbl := q_tk7 (List.mem_of_getElem? (i := 74) rfl)
theorem wX12_isFlight : q_mC mX12_isFlight ∈ lw_tbl := q_tk7 (List.mem_of_getElem? (i := 124) rfl)
theorem wX12_comes : q_mC mX12_comes ∈ lw_tbl := q_tk7 (List.mem_of_getElem? (i := 82) rfl)
theorem wX12_flyer : q_mC mX12_flyer ∈ lw_tbl := q_tk7 (List.mem_of_getElem? (i := 78) rfl)
theorem wX12_flight : q_mC mX12_flight ∈ lw_tbl := q_tk7 (List.mem_of_getElem? (i := 86) rfl)
theorem wX12_isUnder : q_mC mX12_isUnder ∈ lw_tbl := q_tk7 (List.mem_of_getElem? (i := 93) rfl)
theorem wX12_as : q_mC mX12_as ∈ lw_tbl := q_tk7 (List.mem_of_getElem? (i := 90) rfl)
theorem wX12_isHostile : q_mC mX12_isHostile ∈ lw_tbl := q_tk7 (List.mem_of_getElem? (i := 101) rfl)
theorem wX12_flyerIs : q_mC mX12_flyerIs ∈ lw_tbl := q_tk7 (List.mem_of_getElem? (i := 97) rfl)
theorem wX12_answer : q_mC mX12_answer ∈ lw_tbl := q_tk7 (List.mem_of_getElem? (i := 116) rfl)
theorem wX12_send : q_mC mX12_send ∈ lw_tbl := q_tk7 (List.mem_of_getElem? (i := 120) rfl)
theorem wX12_back : q_mC mX12_back ∈ lw_tbl := q_tk7 (List.mem_of_getElem? (i := 128) rfl)
theorem wX12_fill : q_mC mX12_fill ∈ lw_tbl := q_tk7 (List.mem_of_getElem? (i := 132) rfl)
theorem wX12_feed : q_mC mX12_feed ∈ lw_tbl := q_tk7 (List.mem_of_getElem? (i := 136) rfl)
theorem wX12_byteHere : q_mC mX12_byteHere ∈ lw_tbl := q_tk7 (List.mem_of_getElem? (i := 169) rfl)
theorem wX12_does : q_mC mX12_does ∈ lw_tbl := q_tk7 (List.mem_of_getElem? (i := 173) rfl)
theorem wX12_may : q_mC mX12_may ∈ lw_tbl := q_tk7 (List.mem_of_getElem? (i := 181) rfl)
theorem wX12_nameOf : q_mC mX12_nameOf ∈ lw_tbl := q_tk7 (List.mem_of_getElem? (i := 177) rfl)
theorem wX12_readT : q_mC mX12_readT ∈ lw_tbl := q_tk7 (List.mem_of_getElem? (i := 145) rfl)
theorem wX12_readA : q_mC mX12_readA ∈ lw_tbl := q_tk7 (List.mem_of_getElem? (i := 149) rfl)
theorem wX12_readB : q_mC mX12_readB ∈ lw_tbl := q_tk7 (List.mem_of_getElem? (i := 153) rfl)
theorem wX12_readS : q_mC mX12_readS ∈ lw_tbl := q_tk7 (List.mem_of_getElem? (i := 157) rfl)
theorem wX12_readP : q_mC mX12_readP ∈ lw_tbl := q_tk7 (List.mem_of_getElem? (i := 161) rfl)
theorem wX12_readQ : q_mC mX12_readQ ∈ lw_tbl := q_tk7 (List.mem_of_getElem? (i := 165) rfl)
theorem wX12_rule : q_mC mX12_rule ∈ lw_tbl := q_tk7 (List.mem_of_getElem? (i := 141) rfl)
theorem wX12_inForce : q_mC mX12_inForce ∈ lw_tbl := q_tk7 (List.mem_of_getElem? (i := 105) rfl)
theorem wX12_force : q_mC mX12_force ∈ lw_tbl := q_tk7 (List.mem_of_getElem? (i := 185) rfl)
theorem wX12_both : q_mC mX12_both ∈ lw_tbl := q_tk7 (List.mem_of_getElem? (i := 112) rfl)
theorem wX12_worth : q_mC mX12_worth ∈ lw_tbl := q_tk7 (List.mem_of_getElem? (i := 109) rfl)
theorem wX12_says : q_mC mX12_says ∈ lw_tbl := q_tk7 (List.mem_of_getElem? (i := 189) rfl)
theorem wX12_onward : q_mC mX12_onward ∈ lw_tbl := q_tk7 (List.mem_of_getElem? (i := 205) rfl)
theorem wX12_nearer : q_mC mX12_nearer ∈ lw_tbl := q_tk7 (List.mem_of_getElem? (i := 216) rfl)
theorem wX12_steps : q_mC mX12_steps ∈ lw_tbl := q_tk7 (List.mem_of_getElem? (i := 219) rfl)
theorem wX12_goes : q_mC mX12_goes ∈ lw_tbl := q_tk7 (List.mem_of_getElem? (i := 201) rfl)
theorem wX12_flies : q_mC mX12_flies ∈ lw_tbl := q_tk7 (List.mem_of_getElem? (i := 213) rfl)
theorem wX12_allRaids : q_mC mX12_allRaids ∈ lw_tbl := q_tk7 (List.mem_of_getElem? (i := 227) rfl)
theorem wX12_sounds : q_mC mX12_sounds ∈ lw_tbl := q_tk7 (List.mem_of_getElem? (i := 223) rfl)
theorem wX12_ends : q_mC mX12_ends ∈ lw_tbl := q_tk7 (List.mem_of_getElem? (i := 197) rfl)
theorem wX12_minutes : q_mC mX12_minutes ∈ lw_tbl := q_tk7 (List.mem_of_getElem? (i := 193) rfl)
theorem wX12_ahead : q_mC mX12_ahead ∈ lw_tbl := q_tk7 (List.mem_of_getElem? (i := 231) rfl)
theorem wX12_meets : q_mC mX12_meets ∈ lw_tbl := q_tk7 (List.mem_of_getElem? (i := 239) rfl)
theorem wX12_meeting : q_mC mX12_meeting ∈ lw_tbl := q_tk7 (List.mem_of_getElem? (i := 235) rfl)
theorem wX12_inState : q_mC mX12_inState ∈ lw_tbl := q_tk8 (List.mem_of_getElem? (i := 11) rfl)
theorem wX12_sends : q_mC mX12_sends ∈ lw_tbl := q_tk8 (List.mem_of_getElem? (i := 15) rfl)
theorem wX12_findSending : q_mC mX12_findSending ∈ lw_tbl := q_tk8 (List.mem_of_getElem? (i := 7) rfl)
theorem wX12_sending : q_mC mX12_sending ∈ lw_tbl := q_tk8 (List.mem_of_getElem? (i := 3) rfl)
theorem wX12_canFly : q_mC mX12_canFly ∈ lw_tbl := q_tk8 (List.mem_of_getElem? (i := 23) rfl)
theorem wX12_pilots : q_mC mX12_pilots ∈ lw_tbl := q_tk8 (List.mem_of_getElem? (i := 19) rfl)
theorem wX12_seenBy : q_mC mX12_seenBy ∈ lw_tbl := q_tk8 (List.mem_of_getElem? (i := 39) rfl)
theorem wX12_areMasts : q_mC mX12_areMasts ∈ lw_tbl := q_tk8 (List.mem_of_getElem? (i := 31) rfl)
theorem wX12_areCells : q_mC mX12_areCells ∈ lw_tbl := q_tk8 (List.mem_of_getElem? (i := 35) rfl)
theorem wX12_laying : q_mC mX12_laying ∈ lw_tbl := q_tk8 (List.mem_of_getElem? (i := 27) rfl)
theorem wX12_ran : q_mC mX12_ran ∈ lw_tbl := q_tk8 (List.mem_of_getElem? (i := 51) rfl)
theorem wX12_plainGo : q_mC mX12_plainGo ∈ lw_tbl := q_tk8 (List.mem_of_getElem? (i := 55) rfl)
theorem wX12_flightGo : q_mC mX12_flightGo ∈ lw_tbl := q_tk8 (List.mem_of_getElem? (i := 59) rfl)
theorem wX12_go : q_mC mX12_go ∈ lw_tbl := q_tk8 (List.mem_of_getElem? (i := 47) rfl)
theorem wX12_plainJoin : q_mC mX12_plainJoin ∈ lw_tbl := q_tk8 (List.mem_of_getElem? (i := 67) rfl)
theorem wX12_join : q_mC mX12_join ∈ lw_tbl := q_tk8 (List.mem_of_getElem? (i := 63) rfl)
theorem wX12_plainBurn : q_mC mX12_plainBurn ∈ lw_tbl := q_tk8 (List.mem_of_getElem? (i := 75) rfl)
theorem wX12_friendBurn : q_mC mX12_friendBurn ∈ lw_tbl := q_tk8 (List.mem_of_getElem? (i := 79) rfl)
theorem wX12_burn : q_mC mX12_burn ∈ lw_tbl := q_tk8 (List.mem_of_getElem? (i := 71) rfl)
theorem wX12_plainTell : q_mC mX12_plainTell ∈ lw_tbl := q_tk8 (List.mem_of_getElem? (i := 87) rfl)
theorem wX12_tells : q_mC mX12_tells ∈ lw_tbl := q_tk8 (List.mem_of_getElem? (i := 83) rfl)
theorem wX12_voice : q_mC mX12_voice ∈ lw_tbl := q_tk8 (List.mem_of_getElem? (i := 43) rfl)
theorem wX12_trace : q_mC mX12_trace ∈ lw_tbl := q_tk8 (List.mem_of_getElem? (i := 91) rfl)
theorem wX12_sheet : q_mC mX12_sheet ∈ lw_tbl := q_tk8 (List.mem_of_getElem? (i := 95) rfl)
theorem wX12_put : q_mC mX12_put ∈ lw_tbl := q_tk8 (List.mem_of_getElem? (i := 99) rfl)
theorem wX12_move : q_mC mX12_move ∈ lw_tbl := q_tk8 (List.mem_of_getElem? (i := 103) rfl)
theorem wX12_tell : q_mC mX12_tell ∈ lw_tbl := q_tk8 (List.mem_of_getElem? (i := 107) rfl)
theorem wX12_check : q_mC mX12_check ∈ lw_tbl := q_tk8 (List.mem_of_getElem? (i := 111) rfl)
theorem wX12_allOf : q_mC mX12_allOf ∈ lw_tbl := q_tk8 (List.mem_of_getElem? (i := 123) rfl)
theorem wX12_raidsUp : q_mC mX12_raidsUp ∈ lw_tbl := q_tk8 (List.mem_of_getElem? (i := 119) rfl)
theorem wX12_seenCells : q_mC mX12_seenCells ∈ lw_tbl := q_tk8 (List.mem_of_getElem? (i := 127) rfl)
theorem wX12_count : q_mC mX12_count ∈ lw_tbl := q_tk8 (List.mem_of_getElem? (i := 115) rfl)
theorem wX12_found : q_mC mX12_found ∈ lw_tbl := q_tk8 (List.mem_of_getElem? (i := 131) rfl)
theorem wJ6_bitCount_0f7a4 : q_mC mJ6_bitCount_0f7a4 ∈ lw_tbl := q_tk3 (List.mem_of_getElem? (i := 5) rfl)
theorem wJ0_length_8abf5 : q_mC mJ0_length_8abf5 ∈ lw_tbl := q_tk4 (List.mem_of_getElem? (i := 1) rfl)
theorem wJ0_indexOf_0f7a4 : q_mC mJ0_indexOf_0f7a4 ∈ lw_tbl := q_tk3 (List.mem_of_getElem? (i := 227) rfl)
theorem wJ0_indexOf_7cf53 : q_mC mJ0_indexOf_7cf53 ∈ lw_tbl := q_tk3 (List.mem_of_getElem? (i := 231) rfl)
theorem wJ0_coder_7d493 : q_mC mJ0_coder_7d493 ∈ lw_tbl := q_tk4 (List.mem_of_getElem? (i := 5) rfl)
theorem wJ0_isLatin1_aae02 : q_mC mJ0_isLatin1_aae02 ∈ lw_tbl := q_tk3 (List.mem_of_getElem? (i := 235) rfl)
theorem wJ1_canEncode_9a6ad : q_mC mJ1_canEncode_9a6ad ∈ lw_tbl := q_tk4 (List.mem_of_getElem? (i := 11) rfl)
theorem wJ1_indexOf_4cfef : q_mC mJ1_indexOf_4cfef ∈ lw_tbl := q_tk4 (List.mem_of_getElem? (i := 8) rfl)
theorem wJ1_indexOfChar_4cfef : q_mC mJ1_indexOfChar_4cfef ∈ lw_tbl := q_tk4 (List.mem_of_getElem? (i := 16) rfl)
set_option maxRecDepth 100000 in
theorem q_all_ok : ∀ q ∈ q_all, q_mC q ∈ lw_tbl := List.forall_mem_cons.mpr ⟨wX0_init, List.forall_mem_cons.mpr ⟨wX0_read, List.forall_mem_cons.mpr ⟨wX0_seen, List.forall_mem_cons.mpr ⟨wX0_masts, List.forall_mem_cons.mpr ⟨wX0_choose, List.forall_mem_cons.mpr ⟨wX0_worst, List.forall_mem_cons.mpr ⟨wX0_together, List.forall_mem_cons.mpr ⟨wX0_best, List.forall_mem_cons.mpr ⟨wX0_chosen, List.forall_mem_cons.mpr ⟨wX1_init, List.forall_mem_cons.mpr ⟨wX1_begin, List.forall_mem_cons.mpr ⟨wX1_allow, List.forall_mem_cons.mpr ⟨wX1_solve, List.forall_mem_cons.mpr ⟨wX1_lookAhead, List.forall_mem_cons.mpr ⟨wX1_take, List.forall_mem_cons.mpr ⟨wX1_leastFrom, List.forall_mem_cons.mpr ⟨wX1_with, List.forall_mem_cons.mpr ⟨wX1_firstBest, List.forall_mem_cons.mpr ⟨wX1_keep, List.forall_mem_cons.mpr ⟨wX1_kept, List.forall_mem_cons.mpr ⟨wX1_pairs, List.forall_mem_cons.mpr ⟨wX1_sum, List.forall_mem_cons.mpr ⟨wX1_partner, List.forall_mem_cons.mpr ⟨wX2_pass, List.forall_mem_cons.mpr ⟨wX2_goOn, List.forall_mem_cons.mpr ⟨wX2_flyOn, List.forall_mem_cons.mpr ⟨wX2_fieldOf, List.forall_mem_cons.mpr ⟨wX2_meet, List.forall_mem_cons.mpr ⟨wX2_land, List.forall_mem_cons.mpr ⟨wX2_sound, List.forall_mem_cons.mpr ⟨wX2_hits, List.forall_mem_cons.mpr ⟨wX3_isCell, List.forall_mem_cons.mpr ⟨wX3_apart, List.forall_mem_cons.mpr ⟨wX3_reaches, List.forall_mem_cons.mpr ⟨wX3_flown, List.forall_mem_cons.mpr ⟨wX3_nearer, List.forall_mem_cons.mpr ⟨wX3_stepped, List.forall_mem_cons.mpr ⟨wX3_sign, List.forall_mem_cons.mpr ⟨wX3_climbed, List.forall_mem_cons.mpr ⟨wX4_init, List.forall_mem_cons.mpr ⟨wX4_read, List.forall_mem_cons.mpr ⟨wX4_lay, List.forall_mem_cons.mpr ⟨wX4_day, List.forall_mem_cons.mpr ⟨wX4_foresee, List.forall_mem_cons.mpr ⟨wX4_canFill, List.forall_mem_cons.mpr ⟨wX4_firstSet, List.forall_mem_cons.mpr ⟨wX5_init, List.forall_mem_cons.mpr ⟨wX5_copyFrom, List.forall_mem_cons.mpr ⟨wX5_make, List.forall_mem_cons.mpr ⟨wX5_inForce, List.forall_mem_cons.mpr ⟨wX5_worth, List.forall_mem_cons.mpr ⟨wX5_apply, List.forall_mem_cons.mpr ⟨wX5_push, List.forall_mem_cons.mpr ⟨wX5_peek, List.forall_mem_cons.mpr ⟨wX5_joined, List.forall_mem_cons.mpr ⟨wX6_init, List.forall_mem_cons.mpr ⟨wX6_has, List.forall_mem_cons.mpr ⟨wX6_bits, List.forall_mem_cons.mpr ⟨wX6_size, List.forall_mem_cons.mpr ⟨wX6_wanting, List.forall_mem_cons.mpr ⟨wX6_lay, List.forall_mem_cons.mpr ⟨wX6_get, List.forall_mem_cons.mpr ⟨wX6_write, List.forall_mem_cons.mpr ⟨wX6_copy, List.forall_mem_cons.mpr ⟨wX7_init, List.forall_mem_cons.mpr ⟨wX7_size, List.forall_mem_cons.mpr ⟨wX7_has, List.forall_mem_cons.mpr ⟨wX7_isFull, List.forall_mem_cons.mpr ⟨wX7_add, List.forall_mem_cons.mpr ⟨wX7_clear, List.forall_mem_cons.mpr ⟨wX7_get, List.forall_mem_cons.mpr ⟨wX7_write, List.forall_mem_cons.mpr ⟨wX7_indexOf, List.forall_mem_cons.mpr ⟨wX7_total, List.forall_mem_cons.mpr ⟨wX7_copyFrom, List.forall_mem_cons.mpr ⟨wX8_init, List.forall_mem_cons.mpr ⟨wX8_read, List.forall_mem_cons.mpr ⟨wX8_place, List.forall_mem_cons.mpr ⟨wX8_size, List.forall_mem_cons.mpr ⟨wX8_code, List.forall_mem_cons.mpr ⟨wX8_level, List.forall_mem_cons.mpr ⟨wX8_joins, List.forall_mem_cons.mpr ⟨wX8_part, List.forall_mem_cons.mpr ⟨wX8_turned, List.forall_mem_cons.mpr ⟨wX8_bracketed, List.forall_mem_cons.mpr ⟨wX8_number, List.forall_mem_cons.mpr ⟨wX8_next, List.forall_mem_cons.mpr ⟨wX8_isDigit, List.forall_mem_cons.mpr ⟨wX8_nameOf, List.forall_mem_cons.mpr ⟨wX8_emit, List.forall_mem_cons.mpr ⟨wX9_init, List.forall_mem_cons.mpr ⟨wX9_begin, List.forall_mem_cons.mpr ⟨wX9_utter, List.forall_mem_cons.mpr ⟨wX9_own, List.forall_mem_cons.mpr ⟨wX9_from, List.forall_mem_cons.mpr ⟨wX9_bodyFrom, List.forall_mem_cons.mpr ⟨wX9_enemyBody, List.forall_mem_cons.mpr ⟨wX9_friendBody, List.forall_mem_cons.mpr ⟨wX10_init, List.forall_mem_cons.mpr ⟨wX10_copyFrom, List.forall_mem_cons.mpr ⟨wX10_isSeen, List.forall_mem_cons.mpr ⟨wX10_isHeard, List.forall_mem_cons.mpr ⟨wX10_isWatched, List.forall_mem_cons.mpr ⟨wX10_cellsSeen, List.forall_mem_cons.mpr ⟨wX10_addPlot, List.forall_mem_cons.mpr ⟨wX10_mayBeFollowed, List.forall_mem_cons.mpr ⟨wX10_plotsApart, List.forall_mem_cons.mpr ⟨wX10_addFlyer, List.forall_mem_cons.mpr ⟨wX10_above, List.forall_mem_cons.mpr ⟨wX10_isA, List.forall_mem_cons.mpr ⟨wX10_stands, List.forall_mem_cons.mpr ⟨wX10_howMany, List.forall_mem_cons.mpr ⟨wX10_nearestRaid, List.forall_mem_cons.mpr ⟨wX10_manyOfRaids, List.forall_mem_cons.mpr ⟨wX10_wails, List.forall_mem_cons.mpr ⟨wX10_isHostile, List.forall_mem_cons.mpr ⟨wX10_keptDown, List.forall_mem_cons.mpr ⟨wX10_isArmed, List.forall_mem_cons.mpr ⟨wX10_minutesToMeet, List.forall_mem_cons.mpr ⟨wX10_meets, List.forall_mem_cons.mpr ⟨wX11_init, List.forall_mem_cons.mpr ⟨wX11_mast, List.forall_mem_cons.mpr ⟨wX11_jam, List.forall_mem_cons.mpr ⟨wX11_post, List.forall_mem_cons.mpr ⟨wX11_set, List.forall_mem_cons.mpr ⟨wX11_watched, List.forall_mem_cons.mpr ⟨wX11_field, List.forall_mem_cons.mpr ⟨wX11_town, List.forall_mem_cons.mpr ⟨wX11_townIs, List.forall_mem_cons.mpr ⟨wX11_plot, List.forall_mem_cons.mpr ⟨wX11_plots, List.forall_mem_cons.mpr ⟨wX11_addPlots, List.forall_mem_cons.mpr ⟨wX11_plotIs, List.forall_mem_cons.mpr ⟨wX11_follows, List.forall_mem_cons.mpr ⟨wX11_tracking, List.forall_mem_cons.mpr ⟨wX11_matchPlots, List.forall_mem_cons.mpr ⟨wX11_judge, List.forall_mem_cons.mpr ⟨wX11_tracksOf, List.forall_mem_cons.mpr ⟨wX11_arePlots, List.forall_mem_cons.mpr ⟨wX11_isIn, List.forall_mem_cons.mpr ⟨wX11_isTold, List.forall_mem_cons.mpr ⟨wX11_flyer, List.forall_mem_cons.mpr ⟨wX11_flight, List.forall_mem_cons.mpr ⟨wX11_load, List.forall_mem_cons.mpr ⟨wX11_as, List.forall_mem_cons.mpr ⟨wX11_flyerIs, List.forall_mem_cons.mpr ⟨wX11_answer, List.forall_mem_cons.mpr ⟨wX11_send, List.forall_mem_cons.mpr ⟨wX11_notSendable, List.forall_mem_cons.mpr ⟨wX11_back, List.forall_mem_cons.mpr ⟨wX11_fill, List.forall_mem_cons.mpr ⟨wX11_feed, List.forall_mem_cons.mpr ⟨wX11_rule, List.forall_mem_cons.mpr ⟨wX11_force, List.forall_mem_cons.mpr ⟨wX11_says, List.forall_mem_cons.mpr ⟨wX11_meeting, List.forall_mem_cons.mpr ⟨wX11_sending, List.forall_mem_cons.mpr ⟨wX11_listLeast, List.forall_mem_cons.mpr ⟨wX11_matchRaids, List.forall_mem_cons.mpr ⟨wX11_pilots, List.forall_mem_cons.mpr ⟨wX11_laying, List.forall_mem_cons.mpr ⟨wX11_minutes, List.forall_mem_cons.mpr ⟨wX11_ahead, List.forall_mem_cons.mpr ⟨wX11_voice, List.forall_mem_cons.mpr ⟨wX11_trace, List.forall_mem_cons.mpr ⟨wX11_sheet, List.forall_mem_cons.mpr ⟨wX11_put, List.forall_mem_cons.mpr ⟨wX11_move, List.forall_mem_cons.mpr ⟨wX11_image, List.forall_mem_cons.mpr ⟨wX11_restore, List.forall_mem_cons.mpr ⟨wX11_tell, List.forall_mem_cons.mpr ⟨wX11_check, List.forall_mem_cons.mpr ⟨wX11_firstUntrue, List.forall_mem_cons.mpr ⟨wX11_count, List.forall_mem_cons.mpr ⟨wX11_found, List.forall_mem_cons.mpr ⟨wX11_finding, List.forall_mem_cons.mpr ⟨wX11_numberOrFull, List.forall_mem_cons.mpr ⟨wX11_changed, List.forall_mem_cons.mpr ⟨wX11_within, List.forall_mem_cons.mpr ⟨wX12_finds, List.forall_mem_cons.mpr ⟨wX12_in, List.forall_mem_cons.mpr ⟨wX12_isCell, List.forall_mem_cons.mpr ⟨wX12_init, List.forall_mem_cons.mpr ⟨wX12_copies, List.forall_mem_cons.mpr ⟨wX12_copiesAll, List.forall_mem_cons.mpr ⟨wX12_image, List.forall_mem_cons.mpr ⟨wX12_restore, List.forall_mem_cons.mpr ⟨wX12_size, List.forall_mem_cons.mpr ⟨wX12_greater, List.forall_mem_cons.mpr ⟨wX12_lesser, List.forall_mem_cons.mpr ⟨wX12_apart, List.forall_mem_cons.mpr ⟨wX12_isOf, List.forall_mem_cons.mpr ⟨wX12_mast, List.forall_mem_cons.mpr ⟨wX12_jam, List.forall_mem_cons.mpr ⟨wX12_post, List.forall_mem_cons.mpr ⟨wX12_set, List.forall_mem_cons.mpr ⟨wX12_isWithin, List.forall_mem_cons.mpr ⟨wX12_isSeen, List.forall_mem_cons.mpr ⟨wX12_isHeard, List.forall_mem_cons.mpr ⟨wX12_watch, List.forall_mem_cons.mpr ⟨wX12_watched, List.forall_mem_cons.mpr ⟨wX12_field, List.forall_mem_cons.mpr ⟨wX12_town, List.forall_mem_cons.mpr ⟨wX12_isRaid, List.forall_mem_cons.mpr ⟨wX12_nearest, List.forall_mem_cons.mpr ⟨wX12_townIs, List.forall_mem_cons.mpr ⟨wX12_makes, List.forall_mem_cons.mpr ⟨wX12_plot, List.forall_mem_cons.mpr ⟨wX12_isSheet, List.forall_mem_cons.mpr ⟨wX12_plots, List.forall_mem_cons.mpr ⟨wX12_plotIs, List.forall_mem_cons.mpr ⟨wX12_mayFollow, List.forall_mem_cons.mpr ⟨wX12_follows, List.forall_mem_cons.mpr ⟨wX12_takes, List.forall_mem_cons.mpr ⟨wX12_ones, List.forall_mem_cons.mpr ⟨wX12_isTold, List.forall_mem_cons.mpr ⟨wX12_tracks, List.forall_mem_cons.mpr ⟨wX12_tracking, List.forall_mem_cons.mpr ⟨wX12_judge, List.forall_mem_cons.mpr ⟨wX12_isFlight, List.forall_mem_cons.mpr ⟨wX12_comes, List.forall_mem_cons.mpr ⟨wX12_flyer, List.forall_mem_cons.mpr ⟨wX12_flight, List.forall_mem_cons.mpr ⟨wX12_isUnder, List.forall_mem_cons.mpr ⟨wX12_as, List.forall_mem_cons.mpr ⟨wX12_isHostile, List.forall_mem_cons.mpr ⟨wX12_flyerIs, List.forall_mem_cons.mpr ⟨wX12_answer, List.forall_mem_cons.mpr ⟨wX12_send, List.forall_mem_cons.mpr ⟨wX12_back, List.forall_mem_cons.mpr ⟨wX12_fill, List.forall_mem_cons.mpr ⟨wX12_feed, List.forall_mem_cons.mpr ⟨wX12_byteHere, List.forall_mem_cons.mpr ⟨wX12_does, List.forall_mem_cons.mpr ⟨wX12_may, List.forall_mem_cons.mpr ⟨wX12_nameOf, List.forall_mem_cons.mpr ⟨wX12_readT, List.forall_mem_cons.mpr ⟨wX12_readA, List.forall_mem_cons.mpr ⟨wX12_readB, List.forall_mem_cons.mpr ⟨wX12_readS, List.forall_mem_cons.mpr ⟨wX12_readP, List.forall_mem_cons.mpr ⟨wX12_readQ, List.forall_mem_cons.mpr ⟨wX12_rule, List.forall_mem_cons.mpr ⟨wX12_inForce, List.forall_mem_cons.mpr ⟨wX12_force, List.forall_mem_cons.mpr ⟨wX12_both, List.forall_mem_cons.mpr ⟨wX12_worth, List.forall_mem_cons.mpr ⟨wX12_says, List.forall_mem_cons.mpr ⟨wX12_onward, List.forall_mem_cons.mpr ⟨wX12_nearer, List.forall_mem_cons.mpr ⟨wX12_steps, List.forall_mem_cons.mpr ⟨wX12_goes, List.forall_mem_cons.mpr ⟨wX12_flies, List.forall_mem_cons.mpr ⟨wX12_allRaids, List.forall_mem_cons.mpr ⟨wX12_sounds, List.forall_mem_cons.mpr ⟨wX12_ends, List.forall_mem_cons.mpr ⟨wX12_minutes, List.forall_mem_cons.mpr ⟨wX12_ahead, List.forall_mem_cons.mpr ⟨wX12_meets, List.forall_mem_cons.mpr ⟨wX12_meeting, List.forall_mem_cons.mpr ⟨wX12_inState, List.forall_mem_cons.mpr ⟨wX12_sends, List.forall_mem_cons.mpr ⟨wX12_findSending, List.forall_mem_cons.mpr ⟨wX12_sending, List.forall_mem_cons.mpr ⟨wX12_canFly, List.forall_mem_cons.mpr ⟨wX12_pilots, List.forall_mem_cons.mpr ⟨wX12_seenBy, List.forall_mem_cons.mpr ⟨wX12_areMasts, List.forall_mem_cons.mpr ⟨wX12_areCells, List.forall_mem_cons.mpr ⟨wX12_laying, List.forall_mem_cons.mpr ⟨wX12_ran, List.forall_mem_cons.mpr ⟨wX12_plainGo, List.forall_mem_cons.mpr ⟨wX12_flightGo, List.forall_mem_cons.mpr ⟨wX12_go, List.forall_mem_cons.mpr ⟨wX12_plainJoin, List.forall_mem_cons.mpr ⟨wX12_join, List.forall_mem_cons.mpr ⟨wX12_plainBurn, List.forall_mem_cons.mpr ⟨wX12_friendBurn, List.forall_mem_cons.mpr ⟨wX12_burn, List.forall_mem_cons.mpr ⟨wX12_plainTell, List.forall_mem_cons.mpr ⟨wX12_tells, List.forall_mem_cons.mpr ⟨wX12_voice, List.forall_mem_cons.mpr ⟨wX12_trace, List.forall_mem_cons.mpr ⟨wX12_sheet, List.forall_mem_cons.mpr ⟨wX12_put, List.forall_mem_cons.mpr ⟨wX12_move, List.forall_mem_cons.mpr ⟨wX12_tell, List.forall_mem_cons.mpr ⟨wX12_check, List.forall_mem_cons.mpr ⟨wX12_allOf, List.forall_mem_cons.mpr ⟨wX12_raidsUp, List.forall_mem_cons.mpr ⟨wX12_seenCells, List.forall_mem_cons.mpr ⟨wX12_count, List.forall_mem_cons.mpr ⟨wX12_found, List.forall_mem_cons.mpr ⟨wJ6_bitCount_0f7a4, List.forall_mem_cons.mpr ⟨wJ0_length_8abf5, List.forall_mem_cons.mpr ⟨wJ0_indexOf_0f7a4, List.forall_mem_cons.mpr ⟨wJ0_indexOf_7cf53, List.forall_mem_cons.mpr ⟨wJ0_coder_7d493, List.forall_mem_cons.mpr ⟨wJ0_isLatin1_aae02, List.forall_mem_cons.mpr ⟨wJ1_canEncode_9a6ad, List.forall_mem_cons.mpr ⟨wJ1_indexOf_4cfef, List.forall_mem_cons.mpr ⟨wJ1_indexOfChar_4cfef, fun _ h => absurd h List.not_mem_nil⟩⟩⟩⟩⟩⟩⟩⟩⟩⟩⟩⟩⟩⟩⟩⟩⟩⟩⟩⟩⟩⟩⟩⟩⟩⟩⟩⟩⟩⟩⟩⟩⟩⟩⟩⟩⟩⟩⟩⟩⟩⟩⟩⟩⟩⟩⟩⟩⟩⟩⟩⟩⟩⟩⟩⟩⟩⟩⟩⟩⟩⟩⟩⟩⟩⟩⟩⟩⟩⟩⟩⟩⟩⟩⟩⟩⟩⟩⟩⟩⟩⟩⟩⟩⟩⟩⟩⟩⟩⟩⟩⟩⟩⟩⟩⟩⟩⟩⟩⟩⟩⟩⟩⟩⟩⟩⟩⟩⟩⟩⟩⟩⟩⟩⟩⟩⟩⟩⟩⟩⟩⟩⟩⟩⟩⟩⟩⟩⟩⟩⟩⟩⟩⟩⟩⟩⟩⟩⟩⟩⟩⟩⟩⟩⟩⟩⟩⟩⟩⟩⟩⟩⟩⟩⟩⟩⟩⟩⟩⟩⟩⟩⟩⟩⟩⟩⟩⟩⟩⟩⟩⟩⟩⟩⟩⟩⟩⟩⟩⟩⟩⟩⟩⟩⟩⟩⟩⟩⟩⟩⟩⟩⟩⟩⟩⟩⟩⟩⟩⟩⟩⟩⟩⟩⟩⟩⟩⟩⟩⟩⟩⟩⟩⟩⟩⟩⟩⟩⟩⟩⟩⟩⟩⟩⟩⟩⟩⟩⟩⟩⟩⟩⟩⟩⟩⟩⟩⟩⟩⟩⟩⟩⟩⟩⟩⟩⟩⟩⟩⟩⟩⟩⟩⟩⟩⟩⟩⟩⟩⟩⟩⟩⟩⟩⟩⟩⟩⟩⟩⟩⟩⟩⟩⟩⟩⟩⟩⟩⟩⟩⟩⟩⟩⟩⟩⟩⟩⟩⟩⟩⟩⟩⟩⟩⟩⟩⟩⟩⟩⟩⟩⟩
abbrev q_mi (i : Nat) : q_MI := q_all.getD i mX7_get
def q_mS (q : Nat × Nat × Nat × Nat) : Cond := .static (q_mi q.2.2.2).2.1
def q_mI (q : Nat × Nat × Nat × Nat) : Cond := .instanceMethod (q_mi q.2.2.2).2.1
def q_mN (q : Nat × Nat × Nat × Nat) : Cond := .initialized ((q_mi q.2.2.2).2.1).cls
def q_mL (q : Nat × Nat × Nat × Nat) : Cond := .selects ((q_mi q.2.2.2).2.1).cls (q_mi q.2.2.2).2.1 (q_mi q.2.2.2).2.1
def q_mD (q : Nat × Nat × Nat × Nat) : Bool := decide (q.2.2.2 < 302) && decide ((q_mi q.2.2.2).2.1.cls ≠ "java/lang/invoke/MethodHandle") && decide ((q_mi q.2.2.2).2.1.cls ≠ "java/lang/invoke/VarHandle") && decide ((parseMethodDescriptor (q_mi q.2.2.2).2.1.desc).map (fun d => d.parameters.length) = some q.2.2.1) && decide ((q_mi q.2.2.2).2.2.2.1 ≤ 60) && plainName (q_mi q.2.2.2).2.1.cls
def q_mT0 : List (Nat × Nat × Nat × Nat) := [(0, 38, 1, 31), (0, 50, 4, 2), (0, 57, 3, 33), (0, 63, 1, 293), (1, 91, 1, 293), (2, 32, 2, 24), (2, 38, 2, 25), (2, 44, 2, 29), (2, 51, 3, 34), (2, 66, 2, 26), (2, 70, 2, 38), (2, 73, 2, 35), (2, 76, 3, 27), (2, 80, 2, 28), (2, 86, 4, 119), (2, 97, 2, 30), (3, 32, 2, 36), (3, 35, 1, 37), (4, 64, 1, 293), (5, 68, 3, 54), (8, 48, 2, 81), (8, 55, 1, 87), (9, 41, 2, 95), (9, 59, 1, 108), (10, 70, 3, 33), (10, 76, 2, 32), (10, 101, 1, 108), (10, 138, 3, 34), (10, 142, 2, 38), (10, 145, 2, 35), (10, 148, 4, 119), (11, 84, 1, 31), (11, 90, 3, 178), (11, 113, 4, 177), (11, 148, 2, 140), (11, 181, 1, 293), (11, 186, 2, 139), (11, 320, 1, 23), (12, 8, 3, 180), (12, 197, 1, 187), (12, 199, 2, 188), (12, 203, 1, 181), (12, 213, 3, 196), (12, 216, 2, 190), (12, 231, 2, 189), (12, 241, 1, 208), (12, 264, 1, 214), (12, 276, 2, 223), (12, 341, 3, 245), (12, 350, 3, 249), (12, 356, 2, 250), (15, 637, 4, 300), (16, 88, 1, 299), (16, 95, 4, 301)]
def q_mW0 (q : Nat × Nat × Nat × Nat) : Cond := .methodLink (q_cn q.1) q.2.1 (q_mi q.2.2.2).2.1
set_option maxRecDepth 100000 in
set_option maxHeartbeats 4000000 in
theorem q_mW0_0_ok : ∀ q ∈ q_mT0, q_mW0 q ∈ lw_tbl := by
  have h : q_mT0.map q_mW0 = ([1028, 1030, 1033, 1044, 631, 1073, 1079, 1096, 1077, 1083, 1086, 1087, 1088, 1093, 1091, 1108, 948, 951, 1011, 723, 890, 781, 1152, 1157, 455, 462, 495, 933, 941, 945, 954, 406, 409, 427, 507, 579, 585, 1067, 1486, 1529, 1532, 1483, 1519, 1526, 1555, 1571, 1595, 1627, 1646, 1750, 1753, 822, 825, 830] : List Nat).filterMap (fun i => lw_tbl[i]?) := by decide +kernel
  intro q hq
  have h1 : q_mW0 q ∈ q_mT0.map q_mW0 := List.mem_map.mpr ⟨q, hq, rfl⟩
  rw [h] at h1
  obtain ⟨i, -, hi⟩ := List.mem_filterMap.mp h1
  exact List.mem_of_getElem? hi
set_option maxRecDepth 100000 in
set_option maxHeartbeats 4000000 in
theorem q_mN_0_ok : ∀ q ∈ q_mT0, q_mN q ∈ lw_tbl := by
  have h : q_mT0.map q_mN = ([109, 106, 109, 110, 110, 116, 116, 116, 109, 116, 109, 109, 116, 116, 98, 116, 109, 109, 110, 101, 102, 102, 107, 98, 109, 109, 98, 109, 109, 109, 98, 109, 97, 97, 97, 110, 97, 116, 108, 108, 108, 108, 108, 108, 108, 108, 108, 108, 108, 108, 108, 112, 112, 112] : List Nat).filterMap (fun i => lw_tbl[i]?) := by decide +kernel
  intro q hq
  have h1 : q_mN q ∈ q_mT0.map q_mN := List.mem_map.mpr ⟨q, hq, rfl⟩
  rw [h] at h1
  obtain ⟨i, -, hi⟩ := List.mem_filterMap.mp h1
  exact List.mem_of_getElem? hi
set_option maxRecDepth 100000 in
set_option maxHeartbeats 4000000 in
theorem q_mS_0_ok : ∀ q ∈ q_mT0, q_mS q ∈ lw_tbl := by
  have h : q_mT0.map q_mS = ([407, 1031, 456, 580, 580, 1074, 1080, 1097, 934, 1084, 942, 946, 1089, 1094, 955, 1109, 949, 952, 580, 724, 891, 782, 1153, 496, 456, 463, 496, 934, 942, 946, 955, 407, 410, 428, 508, 580, 586, 1068, 1487, 1530, 1533, 1484, 1520, 1527, 1556, 1572, 1596, 1628, 1647, 1751, 1754, 823, 826, 831] : List Nat).filterMap (fun i => lw_tbl[i]?) := by decide +kernel
  intro q hq
  have h1 : q_mS q ∈ q_mT0.map q_mS := List.mem_map.mpr ⟨q, hq, rfl⟩
  rw [h] at h1
  obtain ⟨i, -, hi⟩ := List.mem_filterMap.mp h1
  exact List.mem_of_getElem? hi
set_option maxRecDepth 100000 in
set_option maxHeartbeats 4000000 in
theorem q_mD_0_ok : q_mT0.all q_mD = true := by decide +kernel
def q_mT1 : List (Nat × Nat × Nat × Nat) := [(0, 25, 0, 69), (0, 28, 1, 58), (0, 34, 2, 61), (0, 54, 1, 68), (0, 60, 0, 65), (0, 68, 1, 5), (0, 71, 1, 6), (0, 79, 2, 70), (1, 44, 0, 69), (1, 47, 1, 68), (1, 51, 3, 71), (1, 55, 0, 13), (1, 58, 0, 65), (1, 62, 2, 70), (1, 66, 2, 15), (1, 69, 3, 18), (1, 72, 0, 14), (1, 75, 2, 17), (1, 79, 2, 19), (1, 82, 3, 16), (1, 97, 1, 66), (2, 19, 0, 65), (2, 25, 2, 110), (2, 29, 2, 109), (2, 47, 2, 70), (2, 57, 3, 71), (2, 93, 1, 114), (4, 24, 0, 69), (4, 27, 1, 58), (4, 39, 2, 61), (4, 43, 1, 68), (4, 46, 0, 43), (4, 49, 0, 65), (4, 52, 1, 45), (4, 55, 2, 70), (4, 56, 2, 44), (4, 60, 3, 71), (5, 28, 1, 74), (5, 32, 1, 68), (5, 36, 3, 71), (5, 40, 0, 78), (5, 46, 1, 79), (5, 49, 0, 65), (5, 50, 2, 70), (5, 59, 2, 51), (5, 62, 1, 53), (5, 65, 2, 52), (6, 20, 1, 68), (6, 24, 1, 66), (6, 28, 2, 70), (6, 32, 1, 56), (6, 33, 1, 57), (6, 36, 3, 71), (6, 40, 1, 58), (6, 47, 2, 61), (6, 48, 3, 62), (7, 32, 3, 71), (7, 36, 2, 70), (8, 31, 2, 80), (8, 35, 0, 65), (8, 41, 1, 82), (8, 45, 0, 86), (8, 51, 1, 89), (8, 58, 0, 85), (8, 62, 1, 88), (8, 66, 1, 83), (8, 69, 1, 84), (8, 72, 1, 66), (8, 75, 2, 70), (9, 30, 0, 69), (9, 33, 3, 93), (9, 37, 4, 94), (9, 45, 1, 68), (9, 49, 3, 96), (9, 52, 3, 97), (10, 55, 1, 74), (10, 59, 1, 47), (10, 62, 0, 65), (10, 66, 2, 70), (10, 79, 1, 100), (10, 83, 1, 101), (10, 86, 1, 68), (10, 90, 3, 71), (10, 94, 2, 106), (10, 104, 2, 109), (10, 108, 2, 110), (10, 116, 1, 112), (10, 119, 2, 49), (10, 122, 0, 113), (10, 125, 5, 50), (10, 129, 2, 111), (10, 135, 1, 117), (11, 94, 1, 175), (11, 101, 1, 68), (11, 106, 3, 71), (11, 110, 1, 66), (11, 126, 1, 100), (11, 129, 1, 101), (11, 135, 1, 176), (11, 141, 2, 70), (11, 145, 1, 112), (11, 152, 1, 102), (11, 155, 2, 104), (11, 158, 1, 59), (11, 161, 1, 58), (11, 164, 2, 61), (11, 168, 0, 65), (11, 171, 1, 131), (11, 175, 2, 105), (11, 178, 1, 138), (11, 189, 1, 135), (11, 192, 1, 12), (11, 195, 0, 20), (11, 198, 0, 21), (11, 204, 1, 72), (11, 207, 1, 22), (11, 210, 0, 10), (11, 216, 2, 106), (11, 219, 3, 11), (11, 222, 2, 137), (11, 225, 3, 107), (11, 232, 3, 143), (11, 235, 2, 109), (11, 238, 1, 115), (11, 241, 2, 148), (11, 244, 1, 117), (11, 247, 2, 110), (11, 253, 0, 67), (11, 257, 1, 76), (11, 260, 0, 69), (11, 263, 3, 48), (11, 267, 0, 77), (11, 270, 2, 49), (11, 273, 5, 50), (11, 277, 2, 118), (11, 283, 3, 157), (11, 287, 1, 158), (11, 290, 2, 111), (11, 293, 0, 116), (11, 296, 2, 40), (11, 299, 0, 41), (11, 302, 1, 42), (11, 305, 1, 56), (11, 306, 3, 1), (11, 309, 0, 3), (11, 311, 1, 4), (11, 314, 0, 7), (11, 317, 0, 8), (11, 326, 1, 99), (11, 329, 3, 91), (11, 331, 2, 92), (11, 337, 3, 60), (11, 339, 3, 62), (11, 340, 1, 57), (11, 343, 5, 63), (11, 350, 0, 172), (11, 353, 1, 73), (11, 356, 0, 103), (12, 177, 4, 183), (12, 181, 2, 184), (12, 193, 1, 179), (12, 209, 2, 191), (12, 219, 1, 197), (12, 222, 1, 198), (12, 225, 1, 199), (12, 228, 1, 203), (12, 234, 1, 204), (12, 238, 2, 206), (12, 245, 2, 211), (12, 257, 4, 216), (12, 261, 1, 215), (12, 267, 1, 213), (12, 272, 3, 220), (12, 279, 2, 243), (12, 282, 5, 246), (12, 286, 1, 225), (12, 289, 1, 219), (12, 303, 0, 232), (12, 310, 0, 237), (12, 313, 1, 234), (12, 316, 2, 233), (12, 320, 0, 238), (12, 323, 0, 239), (12, 326, 0, 240), (12, 329, 0, 241), (12, 332, 1, 235), (12, 338, 0, 236), (12, 353, 2, 248), (12, 359, 0, 253), (12, 362, 1, 251), (12, 365, 1, 252), (12, 368, 1, 254), (12, 371, 0, 255), (12, 374, 2, 258), (12, 395, 4, 261), (12, 398, 1, 260), (12, 402, 1, 262), (12, 405, 4, 264), (12, 409, 1, 267), (12, 412, 1, 268), (12, 415, 3, 266), (12, 421, 1, 270), (12, 427, 1, 271), (12, 430, 1, 272), (12, 433, 1, 273), (12, 436, 1, 274), (12, 439, 1, 275), (12, 442, 1, 276), (12, 445, 1, 277), (12, 448, 1, 278), (12, 451, 1, 279), (12, 454, 1, 280), (12, 457, 0, 289), (12, 460, 1, 288), (12, 463, 0, 290), (13, 13, 2, 121), (13, 17, 2, 192), (13, 18, 2, 122), (13, 22, 2, 193), (13, 23, 2, 123), (13, 26, 2, 194), (13, 27, 2, 124), (13, 30, 2, 195), (13, 31, 1, 125), (13, 35, 1, 200), (13, 36, 1, 126), (13, 39, 1, 201), (13, 40, 1, 127), (13, 43, 1, 202), (13, 44, 2, 128), (13, 47, 2, 205), (13, 48, 2, 129), (13, 51, 2, 207), (13, 52, 1, 130), (13, 55, 1, 209), (13, 56, 2, 132), (13, 59, 2, 210), (13, 60, 2, 133), (13, 63, 2, 212), (13, 64, 2, 134), (13, 67, 2, 217), (13, 68, 2, 136), (13, 71, 2, 218), (13, 72, 4, 141), (13, 76, 4, 221), (13, 77, 5, 142), (13, 81, 5, 222), (13, 82, 2, 144), (13, 85, 2, 224), (13, 86, 2, 145), (13, 89, 2, 226), (13, 90, 2, 146), (13, 93, 2, 227), (13, 94, 2, 147), (13, 97, 2, 228), (13, 98, 1, 149), (13, 101, 1, 229), (13, 102, 3, 150), (13, 106, 3, 230), (13, 109, 2, 151), (13, 113, 2, 231), (13, 114, 2, 152), (13, 117, 2, 242), (13, 118, 2, 153), (13, 121, 2, 244), (13, 122, 5, 154), (13, 126, 5, 247), (13, 127, 2, 155), (13, 130, 2, 259), (13, 131, 2, 156), (13, 134, 2, 263), (13, 135, 2, 159), (13, 138, 2, 265), (13, 139, 4, 160), (13, 142, 4, 269), (13, 143, 1, 161), (13, 146, 1, 256), (13, 147, 3, 162), (13, 150, 3, 257), (13, 151, 3, 163), (13, 154, 3, 281), (13, 155, 1, 164), (13, 158, 1, 282), (13, 159, 3, 165), (13, 162, 3, 283), (13, 163, 3, 166), (13, 166, 3, 284), (13, 167, 5, 167), (13, 170, 5, 285), (13, 171, 0, 168), (13, 175, 0, 185), (13, 176, 0, 169), (13, 179, 0, 186), (13, 180, 1, 170), (13, 183, 1, 286), (13, 184, 0, 171), (13, 187, 0, 287), (13, 188, 1, 173), (13, 191, 1, 291), (13, 192, 1, 174), (13, 195, 1, 292)]
def q_mW1 (q : Nat × Nat × Nat × Nat) : Cond := .methodLink (q_cn q.1) q.2.1 (q_mi q.2.2.2).2.1
set_option maxRecDepth 100000 in
set_option maxHeartbeats 4000000 in
theorem q_mW1_1_ok : ∀ q ∈ q_mT1, q_mW1 q ∈ lw_tbl := by
  have h : q_mT1.map q_mW1 = ([1025, 1026, 1027, 1034, 1039, 1045, 1049, 1053, 596, 600, 601, 611, 615, 616, 617, 633, 637, 641, 622, 627, 662, 1070, 1071, 1072, 1076, 1078, 1099, 987, 988, 990, 991, 996, 1000, 1007, 1005, 1001, 1006, 1130, 899, 900, 901, 905, 704, 705, 711, 719, 715, 260, 534, 539, 530, 535, 1179, 548, 1197, 1198, 264, 657, 767, 893, 771, 775, 789, 785, 793, 882, 886, 779, 780, 1139, 1144, 1148, 1158, 1159, 1163, 1119, 1126, 450, 454, 514, 515, 520, 521, 567, 489, 498, 1103, 700, 1104, 706, 977, 932, 412, 417, 418, 423, 446, 458, 473, 430, 485, 510, 516, 526, 540, 544, 550, 551, 563, 575, 588, 607, 645, 649, 653, 658, 592, 602, 603, 667, 675, 683, 691, 696, 734, 739, 738, 759, 763, 894, 895, 909, 918, 923, 928, 961, 965, 969, 973, 983, 992, 1012, 1020, 1021, 1035, 1040, 1055, 1059, 1115, 1135, 1140, 1175, 1184, 1192, 1193, 1215, 1223, 1227, 1465, 1461, 1474, 1495, 1515, 1522, 1511, 1551, 1547, 1563, 1583, 1603, 1591, 1598, 1615, 1638, 1642, 1634, 1657, 1702, 1682, 1714, 1706, 1686, 1690, 1694, 1698, 1710, 1678, 1738, 1760, 1734, 1746, 1756, 1730, 1772, 1788, 1784, 1780, 1796, 1804, 1808, 1812, 1824, 1828, 1832, 1820, 1840, 1836, 1848, 1852, 1844, 1860, 1856, 1892, 1896, 1900, 402, 1479, 419, 1491, 434, 1499, 438, 1503, 442, 1507, 469, 1535, 477, 1539, 481, 1543, 503, 1558, 522, 1567, 555, 1575, 559, 1579, 571, 1587, 663, 1607, 671, 1611, 679, 1619, 687, 1623, 692, 1630, 726, 1649, 730, 1653, 743, 1661, 747, 1665, 751, 1669, 755, 1674, 914, 1718, 919, 1722, 924, 1768, 957, 1776, 979, 1792, 1016, 1800, 1063, 1726, 1111, 1764, 1131, 1816, 1167, 1864, 1171, 1868, 1180, 1872, 1188, 1876, 1199, 1457, 1203, 1469, 1207, 1880, 1211, 1884, 1219, 1888, 1231, 1904] : List Nat).filterMap (fun i => lw_tbl[i]?) := by decide +kernel
  intro q hq
  have h1 : q_mW1 q ∈ q_mT1.map q_mW1 := List.mem_map.mpr ⟨q, hq, rfl⟩
  rw [h] at h1
  obtain ⟨i, -, hi⟩ := List.mem_filterMap.mp h1
  exact List.mem_of_getElem? hi
set_option maxRecDepth 100000 in
set_option maxHeartbeats 4000000 in
theorem q_mN_1_ok : ∀ q ∈ q_mT1, q_mN q ∈ lw_tbl := by
  have h : q_mT1.map q_mN = ([99, 103, 103, 99, 99, 106, 106, 99, 99, 99, 99, 104, 99, 99, 104, 104, 104, 104, 104, 104, 99, 99, 98, 98, 99, 99, 98, 99, 103, 103, 99, 105, 99, 105, 99, 105, 99, 99, 99, 99, 102, 102, 99, 99, 101, 101, 101, 99, 99, 99, 103, 103, 99, 103, 103, 103, 99, 99, 102, 99, 102, 102, 102, 102, 102, 102, 102, 99, 99, 99, 107, 107, 99, 107, 107, 99, 101, 99, 99, 98, 98, 99, 99, 98, 98, 98, 98, 101, 98, 101, 98, 98, 97, 99, 99, 99, 98, 98, 97, 99, 98, 98, 98, 103, 103, 103, 99, 97, 98, 97, 97, 104, 104, 104, 99, 104, 104, 98, 104, 97, 98, 97, 98, 98, 97, 98, 98, 99, 102, 99, 101, 102, 101, 101, 98, 97, 97, 98, 98, 105, 105, 105, 103, 106, 106, 106, 106, 106, 98, 107, 107, 103, 103, 103, 103, 97, 99, 98, 108, 108, 108, 108, 108, 108, 108, 108, 108, 108, 108, 108, 108, 108, 108, 108, 108, 108, 108, 108, 108, 108, 108, 108, 108, 108, 108, 108, 108, 108, 108, 108, 108, 108, 108, 108, 108, 108, 108, 108, 108, 108, 108, 108, 108, 108, 108, 108, 108, 108, 108, 108, 108, 108, 108, 108, 108, 97, 108, 97, 108, 97, 108, 97, 108, 97, 108, 97, 108, 97, 108, 97, 108, 97, 108, 97, 108, 97, 108, 97, 108, 97, 108, 97, 108, 97, 108, 97, 108, 97, 108, 97, 108, 97, 108, 97, 108, 97, 108, 97, 108, 97, 108, 97, 108, 97, 108, 97, 108, 97, 108, 97, 108, 97, 108, 97, 108, 97, 108, 97, 108, 97, 108, 97, 108, 97, 108, 97, 108, 97, 108, 97, 108, 97, 108, 97, 108, 97, 108, 97, 108, 97, 108] : List Nat).filterMap (fun i => lw_tbl[i]?) := by decide +kernel
  intro q hq
  have h1 : q_mN q ∈ q_mT1.map q_mN := List.mem_map.mpr ⟨q, hq, rfl⟩
  rw [h] at h1
  obtain ⟨i, -, hi⟩ := List.mem_filterMap.mp h1
  exact List.mem_of_getElem? hi
set_option maxRecDepth 100000 in
set_option maxHeartbeats 4000000 in
theorem q_mI_1_ok : ∀ q ∈ q_mT1, q_mI q ∈ lw_tbl := by
  have h : q_mT1.map q_mI = ([597, 541, 545, 261, 451, 1047, 1051, 431, 597, 261, 265, 613, 451, 431, 619, 635, 639, 643, 624, 629, 424, 451, 499, 490, 431, 265, 1100, 597, 541, 545, 261, 998, 451, 1009, 431, 1003, 265, 1120, 261, 265, 902, 906, 451, 431, 713, 721, 717, 261, 424, 431, 531, 536, 265, 541, 545, 1185, 265, 431, 769, 451, 773, 777, 791, 787, 795, 884, 888, 424, 431, 597, 1146, 1150, 261, 1161, 1165, 1120, 1127, 451, 431, 447, 459, 261, 265, 568, 490, 499, 486, 701, 1106, 707, 970, 740, 414, 261, 265, 424, 447, 459, 475, 431, 486, 511, 517, 527, 541, 545, 451, 553, 564, 577, 590, 608, 646, 650, 654, 659, 593, 568, 604, 669, 676, 685, 490, 697, 736, 740, 499, 760, 764, 597, 896, 910, 701, 707, 929, 963, 967, 970, 974, 984, 993, 1013, 531, 1022, 1036, 1041, 1056, 1060, 1116, 1136, 1141, 1176, 1185, 536, 1194, 1217, 1224, 1228, 1467, 1463, 1476, 1497, 1517, 1524, 1513, 1553, 1549, 1565, 1585, 1605, 1593, 1600, 1617, 1640, 1644, 1636, 1659, 1704, 1684, 1716, 1708, 1688, 1692, 1696, 1700, 1712, 1680, 1740, 1762, 1736, 1748, 1758, 1732, 1774, 1790, 1786, 1782, 1798, 1806, 1810, 1814, 1826, 1830, 1834, 1822, 1842, 1838, 1850, 1854, 1846, 1862, 1858, 1894, 1898, 1902, 403, 1480, 420, 1492, 435, 1500, 439, 1504, 443, 1508, 470, 1536, 478, 1540, 482, 1544, 504, 1559, 523, 1568, 556, 1576, 560, 1580, 572, 1588, 664, 1608, 672, 1612, 680, 1620, 688, 1624, 693, 1631, 727, 1650, 731, 1654, 744, 1662, 748, 1666, 752, 1670, 756, 1675, 915, 1719, 920, 1723, 925, 1769, 958, 1777, 980, 1793, 1017, 1801, 1064, 1727, 1112, 1765, 1132, 1817, 1168, 1865, 1172, 1869, 1181, 1873, 1189, 1877, 1200, 1458, 1204, 1470, 1208, 1881, 1212, 1885, 1220, 1889, 1232, 1905] : List Nat).filterMap (fun i => lw_tbl[i]?) := by decide +kernel
  intro q hq
  have h1 : q_mI q ∈ q_mT1.map q_mI := List.mem_map.mpr ⟨q, hq, rfl⟩
  rw [h] at h1
  obtain ⟨i, -, hi⟩ := List.mem_filterMap.mp h1
  exact List.mem_of_getElem? hi
set_option maxRecDepth 100000 in
set_option maxHeartbeats 4000000 in
theorem q_mL_1_ok : ∀ q ∈ q_mT1, q_mL q ∈ lw_tbl := by
  have h : q_mT1.map q_mL = ([598, 542, 546, 262, 452, 31, 32, 432, 598, 262, 266, 5, 452, 432, 6, 9, 10, 11, 7, 8, 425, 452, 500, 491, 432, 266, 1101, 598, 542, 546, 262, 28, 452, 30, 432, 29, 266, 1121, 262, 266, 903, 907, 452, 432, 14, 16, 15, 262, 425, 432, 532, 537, 266, 542, 546, 1186, 266, 432, 18, 452, 19, 20, 22, 21, 23, 24, 25, 425, 432, 598, 34, 35, 262, 36, 37, 1121, 1128, 452, 432, 448, 460, 262, 266, 569, 491, 500, 487, 702, 33, 708, 971, 741, 0, 262, 266, 425, 448, 460, 1, 432, 487, 512, 518, 528, 542, 546, 452, 2, 565, 3, 4, 609, 647, 651, 655, 660, 594, 569, 605, 12, 677, 13, 491, 698, 17, 741, 500, 761, 765, 598, 897, 911, 702, 708, 930, 26, 27, 971, 975, 985, 994, 1014, 532, 1023, 1037, 1042, 1057, 1061, 1117, 1137, 1142, 1177, 1186, 537, 1195, 38, 1225, 1229, 40, 39, 41, 42, 44, 45, 43, 47, 46, 48, 49, 52, 50, 51, 53, 55, 56, 54, 57, 64, 59, 67, 65, 60, 61, 62, 63, 66, 58, 70, 73, 69, 71, 72, 68, 74, 77, 76, 75, 78, 79, 80, 81, 83, 84, 85, 82, 87, 86, 89, 90, 88, 92, 91, 93, 94, 95, 404, 1481, 421, 1493, 436, 1501, 440, 1505, 444, 1509, 471, 1537, 479, 1541, 483, 1545, 505, 1560, 524, 1569, 557, 1577, 561, 1581, 573, 1589, 665, 1609, 673, 1613, 681, 1621, 689, 1625, 694, 1632, 728, 1651, 732, 1655, 745, 1663, 749, 1667, 753, 1671, 757, 1676, 916, 1720, 921, 1724, 926, 1770, 959, 1778, 981, 1794, 1018, 1802, 1065, 1728, 1113, 1766, 1133, 1818, 1169, 1866, 1173, 1870, 1182, 1874, 1190, 1878, 1201, 1459, 1205, 1471, 1209, 1882, 1213, 1886, 1221, 1890, 1233, 1906] : List Nat).filterMap (fun i => lw_tbl[i]?) := by decide +kernel
  intro q hq
  have h1 : q_mL q ∈ q_mT1.map q_mL := List.mem_map.mpr ⟨q, hq, rfl⟩
  rw [h] at h1
  obtain ⟨i, -, hi⟩ := List.mem_filterMap.mp h1
  exact List.mem_of_getElem? hi
set_option maxRecDepth 100000 in
set_option maxHeartbeats 4000000 in
theorem q_mD_1_ok : q_mT1.all q_mD = true := by decide +kernel
def q_mT2 : List (Nat × Nat × Nat × Nat) := [(0, 11, 2, 64), (1, 11, 2, 64), (4, 11, 2, 64), (5, 11, 2, 64), (6, 13, 2, 64), (9, 11, 2, 64), (10, 11, 2, 64), (11, 34, 1, 75), (11, 43, 0, 55), (13, 9, 0, 120), (13, 12, 0, 182)]
def q_mW2 (q : Nat × Nat × Nat × Nat) : Cond := .methodLink (q_cn q.1) q.2.1 (q_mi q.2.2.2).2.1
set_option maxRecDepth 100000 in
set_option maxHeartbeats 4000000 in
theorem q_mW2_2_ok : ∀ q ∈ q_mT2, q_mW2 q ∈ lw_tbl := by
  have h : q_mT2.map q_mW2 = ([335, 279, 317, 165, 259, 353, 134, 232, 254, 120, 1237] : List Nat).filterMap (fun i => lw_tbl[i]?) := by decide +kernel
  intro q hq
  have h1 : q_mW2 q ∈ q_mT2.map q_mW2 := List.mem_map.mpr ⟨q, hq, rfl⟩
  rw [h] at h1
  obtain ⟨i, -, hi⟩ := List.mem_filterMap.mp h1
  exact List.mem_of_getElem? hi
set_option maxRecDepth 100000 in
set_option maxHeartbeats 4000000 in
theorem q_mN_2_ok : ∀ q ∈ q_mT2, q_mN q ∈ lw_tbl := by
  have h : q_mT2.map q_mN = ([99, 99, 99, 99, 99, 99, 99, 102, 103, 97, 108] : List Nat).filterMap (fun i => lw_tbl[i]?) := by decide +kernel
  intro q hq
  have h1 : q_mN q ∈ q_mT2.map q_mN := List.mem_map.mpr ⟨q, hq, rfl⟩
  rw [h] at h1
  obtain ⟨i, -, hi⟩ := List.mem_filterMap.mp h1
  exact List.mem_of_getElem? hi
set_option maxRecDepth 100000 in
set_option maxHeartbeats 4000000 in
theorem q_mI_2_ok : ∀ q ∈ q_mT2, q_mI q ∈ lw_tbl := by
  have h : q_mT2.map q_mI = ([135, 135, 135, 135, 135, 135, 135, 233, 255, 121, 1238] : List Nat).filterMap (fun i => lw_tbl[i]?) := by decide +kernel
  intro q hq
  have h1 : q_mI q ∈ q_mT2.map q_mI := List.mem_map.mpr ⟨q, hq, rfl⟩
  rw [h] at h1
  obtain ⟨i, -, hi⟩ := List.mem_filterMap.mp h1
  exact List.mem_of_getElem? hi
set_option maxRecDepth 100000 in
set_option maxHeartbeats 4000000 in
theorem q_mD_2_ok : q_mT2.all q_mD = true := by decide +kernel
def q_mT3 : List (Nat × Nat × Nat × Nat) := [(0, 44, 3, 178), (3, 26, 3, 178), (4, 33, 3, 178), (6, 43, 3, 178), (8, 79, 3, 178)]
def q_mW3 (q : Nat × Nat × Nat × Nat) : Cond := .methodLinkNest (q_cn q.1) q.2.1 (q_mi q.2.2.2).2.1 RX11
set_option maxRecDepth 100000 in
set_option maxHeartbeats 4000000 in
theorem q_mW3_3_ok : ∀ q ∈ q_mT3, q_mW3 q ∈ lw_tbl := by
  have h : q_mT3.map q_mW3 = ([1029, 940, 989, 549, 784] : List Nat).filterMap (fun i => lw_tbl[i]?) := by decide +kernel
  intro q hq
  have h1 : q_mW3 q ∈ q_mT3.map q_mW3 := List.mem_map.mpr ⟨q, hq, rfl⟩
  rw [h] at h1
  obtain ⟨i, -, hi⟩ := List.mem_filterMap.mp h1
  exact List.mem_of_getElem? hi
set_option maxRecDepth 100000 in
set_option maxHeartbeats 4000000 in
theorem q_mN_3_ok : ∀ q ∈ q_mT3, q_mN q ∈ lw_tbl := by
  have h : q_mT3.map q_mN = ([97, 97, 97, 97, 97] : List Nat).filterMap (fun i => lw_tbl[i]?) := by decide +kernel
  intro q hq
  have h1 : q_mN q ∈ q_mT3.map q_mN := List.mem_map.mpr ⟨q, hq, rfl⟩
  rw [h] at h1
  obtain ⟨i, -, hi⟩ := List.mem_filterMap.mp h1
  exact List.mem_of_getElem? hi
set_option maxRecDepth 100000 in
set_option maxHeartbeats 4000000 in
theorem q_mS_3_ok : ∀ q ∈ q_mT3, q_mS q ∈ lw_tbl := by
  have h : q_mT3.map q_mS = ([410, 410, 410, 410, 410] : List Nat).filterMap (fun i => lw_tbl[i]?) := by decide +kernel
  intro q hq
  have h1 : q_mS q ∈ q_mT3.map q_mS := List.mem_map.mpr ⟨q, hq, rfl⟩
  rw [h] at h1
  obtain ⟨i, -, hi⟩ := List.mem_filterMap.mp h1
  exact List.mem_of_getElem? hi
set_option maxRecDepth 100000 in
set_option maxHeartbeats 4000000 in
theorem q_mD_3_ok : q_mT3.all q_mD = true := by decide +kernel
def q_mT4 : List (Nat × Nat × Nat × Nat) := [(10, 40, 0, 46), (11, 9, 0, 98), (11, 50, 0, 9), (11, 57, 0, 39), (11, 64, 0, 0), (11, 71, 0, 90)]
def q_mW4 (q : Nat × Nat × Nat × Nat) : Cond := .methodLinkNest (q_cn q.1) q.2.1 (q_mi q.2.2.2).2.1 RX11
set_option maxRecDepth 100000 in
set_option maxHeartbeats 4000000 in
theorem q_mW4_4_ok : ∀ q ∈ q_mT4, q_mW4 q ∈ lw_tbl := by
  have h : q_mT4.map q_mW4 = ([160, 128, 274, 312, 330, 348] : List Nat).filterMap (fun i => lw_tbl[i]?) := by decide +kernel
  intro q hq
  have h1 : q_mW4 q ∈ q_mT4.map q_mW4 := List.mem_map.mpr ⟨q, hq, rfl⟩
  rw [h] at h1
  obtain ⟨i, -, hi⟩ := List.mem_filterMap.mp h1
  exact List.mem_of_getElem? hi
set_option maxRecDepth 100000 in
set_option maxHeartbeats 4000000 in
theorem q_mN_4_ok : ∀ q ∈ q_mT4, q_mN q ∈ lw_tbl := by
  have h : q_mT4.map q_mN = ([101, 98, 104, 105, 106, 107] : List Nat).filterMap (fun i => lw_tbl[i]?) := by decide +kernel
  intro q hq
  have h1 : q_mN q ∈ q_mT4.map q_mN := List.mem_map.mpr ⟨q, hq, rfl⟩
  rw [h] at h1
  obtain ⟨i, -, hi⟩ := List.mem_filterMap.mp h1
  exact List.mem_of_getElem? hi
set_option maxRecDepth 100000 in
set_option maxHeartbeats 4000000 in
theorem q_mI_4_ok : ∀ q ∈ q_mT4, q_mI q ∈ lw_tbl := by
  have h : q_mT4.map q_mI = ([161, 129, 275, 313, 331, 349] : List Nat).filterMap (fun i => lw_tbl[i]?) := by decide +kernel
  intro q hq
  have h1 : q_mI q ∈ q_mT4.map q_mI := List.mem_map.mpr ⟨q, hq, rfl⟩
  rw [h] at h1
  obtain ⟨i, -, hi⟩ := List.mem_filterMap.mp h1
  exact List.mem_of_getElem? hi
set_option maxRecDepth 100000 in
set_option maxHeartbeats 4000000 in
theorem q_mD_4_ok : q_mT4.all q_mD = true := by decide +kernel
def q_mT5 : List (Nat × Nat × Nat × Nat) := [(8, 89, 1, 295), (15, 335, 0, 297), (15, 492, 0, 298), (15, 505, 0, 294), (15, 633, 2, 296)]
def q_mW5 (q : Nat × Nat × Nat × Nat) : Cond := .methodLink (q_cn q.1) q.2.1 (q_mi q.2.2.2).2.1
set_option maxRecDepth 100000 in
set_option maxHeartbeats 4000000 in
theorem q_mW5_5_ok : ∀ q ∈ q_mT5, q_mW5 q ∈ lw_tbl := by
  have h : q_mT5.map q_mW5 = ([800, 818, 808, 814, 804] : List Nat).filterMap (fun i => lw_tbl[i]?) := by decide +kernel
  intro q hq
  have h1 : q_mW5 q ∈ q_mT5.map q_mW5 := List.mem_map.mpr ⟨q, hq, rfl⟩
  rw [h] at h1
  obtain ⟨i, -, hi⟩ := List.mem_filterMap.mp h1
  exact List.mem_of_getElem? hi
set_option maxRecDepth 100000 in
set_option maxHeartbeats 4000000 in
theorem q_mN_5_ok : ∀ q ∈ q_mT5, q_mN q ∈ lw_tbl := by
  have h : q_mT5.map q_mN = ([111, 111, 111, 111, 111] : List Nat).filterMap (fun i => lw_tbl[i]?) := by decide +kernel
  intro q hq
  have h1 : q_mN q ∈ q_mT5.map q_mN := List.mem_map.mpr ⟨q, hq, rfl⟩
  rw [h] at h1
  obtain ⟨i, -, hi⟩ := List.mem_filterMap.mp h1
  exact List.mem_of_getElem? hi
set_option maxRecDepth 100000 in
set_option maxHeartbeats 4000000 in
theorem q_mI_5_ok : ∀ q ∈ q_mT5, q_mI q ∈ lw_tbl := by
  have h : q_mT5.map q_mI = ([801, 819, 809, 815, 805] : List Nat).filterMap (fun i => lw_tbl[i]?) := by decide +kernel
  intro q hq
  have h1 : q_mI q ∈ q_mT5.map q_mI := List.mem_map.mpr ⟨q, hq, rfl⟩
  rw [h] at h1
  obtain ⟨i, -, hi⟩ := List.mem_filterMap.mp h1
  exact List.mem_of_getElem? hi
set_option maxRecDepth 100000 in
set_option maxHeartbeats 4000000 in
theorem q_mL_5_ok : ∀ q ∈ q_mT5, q_mL q ∈ lw_tbl := by
  have h : q_mT5.map q_mL = ([802, 820, 810, 816, 806] : List Nat).filterMap (fun i => lw_tbl[i]?) := by decide +kernel
  intro q hq
  have h1 : q_mL q ∈ q_mT5.map q_mL := List.mem_map.mpr ⟨q, hq, rfl⟩
  rw [h] at h1
  obtain ⟨i, -, hi⟩ := List.mem_filterMap.mp h1
  exact List.mem_of_getElem? hi
set_option maxRecDepth 100000 in
set_option maxHeartbeats 4000000 in
theorem q_mD_5_ok : q_mT5.all q_mD = true := by decide +kernel
def q_oT : List (Nat × Nat) := [(11, 1), (10, 3), (7, 1), (5, 1), (8, 3), (6, 3), (1, 3), (4, 1), (0, 1), (9, 3), (12, 12)]
def q_oTW (q : Nat × Nat) : Cond := .methodLink (q_cn q.1) q.2 objectInit
set_option maxRecDepth 100000 in
theorem q_oT_ok : ∀ q ∈ q_oT, q_oTW q ∈ lw_tbl := by
  have h : q_oT.map q_oTW = ([123, 131, 137, 163, 235, 257, 277, 315, 333, 351, 1240] : List Nat).filterMap (fun i => lw_tbl[i]?) := by decide +kernel
  intro q hq
  have h1 : q_oTW q ∈ q_oT.map q_oTW := List.mem_map.mpr ⟨q, hq, rfl⟩
  rw [h] at h1
  obtain ⟨i, -, hi⟩ := List.mem_filterMap.mp h1
  exact List.mem_of_getElem? hi
def q_xT : List (Nat × Nat) := [(7, 19), (3, 15), (16, 92), (10, 132), (2, 61)]
def q_xTW (q : Nat × Nat) : Cond := .methodLink (q_cn q.1) q.2 Lib.Math.max.name
set_option maxRecDepth 100000 in
theorem q_xT_ok : ∀ q ∈ q_xT, q_xTW q ∈ lw_tbl := by
  have h : q_xT.map q_xTW = ([141, 468, 828, 978, 1082] : List Nat).filterMap (fun i => lw_tbl[i]?) := by decide +kernel
  intro q hq
  have h1 : q_xTW q ∈ q_xT.map q_xTW := List.mem_map.mpr ⟨q, hq, rfl⟩
  rw [h] at h1
  obtain ⟨i, -, hi⟩ := List.mem_filterMap.mp h1
  exact List.mem_of_getElem? hi
def q_nT : List (Nat × Nat) := [(7, 13), (10, 111), (1, 86), (5, 54), (16, 38), (3, 38), (0, 74), (2, 90)]
def q_nTW (q : Nat × Nat) : Cond := .methodLink (q_cn q.1) q.2 Lib.Math.min.name
set_option maxRecDepth 100000 in
theorem q_nT_ok : ∀ q ∈ q_nT, q_nTW q ∈ lw_tbl := by
  have h : q_nT.map q_nTW = ([138, 502, 632, 710, 829, 944, 1054, 1092] : List Nat).filterMap (fun i => lw_tbl[i]?) := by decide +kernel
  intro q hq
  have h1 : q_nTW q ∈ q_nT.map q_nTW := List.mem_map.mpr ⟨q, hq, rfl⟩
  rw [h] at h1
  obtain ⟨i, -, hi⟩ := List.mem_filterMap.mp h1
  exact List.mem_of_getElem? hi
def q_aT : List (Nat × Nat) := [(3, 9)]
def q_aTW (q : Nat × Nat) : Cond := .methodLink (q_cn q.1) q.2 Lib.Math.abs.name
set_option maxRecDepth 100000 in
theorem q_aT_ok : ∀ q ∈ q_aT, q_aTW q ∈ lw_tbl := by
  have h : q_aT.map q_aTW = ([465] : List Nat).filterMap (fun i => lw_tbl[i]?) := by decide +kernel
  intro q hq
  have h1 : q_aTW q ∈ q_aT.map q_aTW := List.mem_map.mpr ⟨q, hq, rfl⟩
  rw [h] at h1
  obtain ⟨i, -, hi⟩ := List.mem_filterMap.mp h1
  exact List.mem_of_getElem? hi
def q_yT : List (Nat × Nat) := [(7, 39)]
def q_yTW (q : Nat × Nat) : Cond := .methodLink (q_cn q.1) q.2 arraycopyName
set_option maxRecDepth 100000 in
theorem q_yT_ok : ∀ q ∈ q_yT, q_yTW q ∈ lw_tbl := by
  have h : q_yT.map q_yTW = ([1123] : List Nat).filterMap (fun i => lw_tbl[i]?) := by decide +kernel
  intro q hq
  have h1 : q_yTW q ∈ q_yT.map q_yTW := List.mem_map.mpr ⟨q, hq, rfl⟩
  rw [h] at h1
  obtain ⟨i, -, hi⟩ := List.mem_filterMap.mp h1
  exact List.mem_of_getElem? hi
abbrev q_sta (i : Nat) : String × String := ([("", ""), (RX10, "ABOVE"), (RX3, "WAY_X"), (RX3, "WAY_Y"), (RX9, "BODIES"), (RX12, "WAY_X"), (RX12, "WAY_Y")] : List (String × String)).getD i ("", "")
def q_staT : List (Nat × Nat × Nat) := [(10, 97, 1), (3, 19, 2), (3, 23, 3), (9, 55, 4), (12, 344, 5), (12, 347, 6)]
def q_staW (q : Nat × Nat × Nat) : Cond := .fieldLink (q_cn q.1) q.2.1 (q_sta q.2.2).1 (q_sta q.2.2).2 "[I"
set_option maxRecDepth 100000 in
set_option maxHeartbeats 4000000 in
theorem q_staT_ok : ∀ q ∈ q_staT, q_staW q ∈ lw_tbl := by
  have h : q_staT.map q_staW = ([493, 936, 938, 1155, 1742, 1744] : List Nat).filterMap (fun i => lw_tbl[i]?) := by decide +kernel
  intro q hq
  have h1 : q_staW q ∈ q_staT.map q_staW := List.mem_map.mpr ⟨q, hq, rfl⟩
  rw [h] at h1
  obtain ⟨i, -, hi⟩ := List.mem_filterMap.mp h1
  exact List.mem_of_getElem? hi
abbrev q_tx (i : Nat) : String := (["fmwt", "shan", "du"] : List String).getD i ""
def q_strT : List (Nat × Nat × Nat) := [(8, 83, 0), (8, 85, 1), (8, 87, 2)]
def q_sfT : List (Nat × Nat × Nat) := [(15, 15, 0), (15, 9, 1)]
def q_sfW (q : Nat × Nat × Nat) : Cond := .fieldLink (q_cn q.1) q.2.1 "java/lang/String" (if q.2.2 = 0 then "code\x72" else "value") (if q.2.2 = 0 then "B" else "[B")
set_option maxRecDepth 100000 in
set_option maxHeartbeats 4000000 in
theorem q_sfT_ok : ∀ q ∈ q_sfT, q_sfW q ∈ lw_tbl := by
  have h : q_sfT.map q_sfW = ([1909, 1910] : List Nat).filterMap (fun i => lw_tbl[i]?) := by decide +kernel
  intro q hq
  have h1 : q_sfW q ∈ q_sfT.map q_sfW := List.mem_map.mpr ⟨q, hq, rfl⟩
  rw [h] at h1
  obtain ⟨i, -, hi⟩ := List.mem_filterMap.mp h1
  exact List.mem_of_getElem? hi
def q_csT : List (Nat × Nat) := [(15, 38)]
def q_csW (q : Nat × Nat) : Cond := .fieldLink (q_cn q.1) q.2 "java/lang/String" "COMPACT_STRINGS" "Z"
set_option maxRecDepth 100000 in
set_option maxHeartbeats 4000000 in
theorem q_csT_ok : ∀ q ∈ q_csT, q_csW q ∈ lw_tbl := by
  have h : q_csT.map q_csW = ([812] : List Nat).filterMap (fun i => lw_tbl[i]?) := by decide +kernel
  intro q hq
  have h1 : q_csW q ∈ q_csT.map q_csW := List.mem_map.mpr ⟨q, hq, rfl⟩
  rw [h] at h1
  obtain ⟨i, -, hi⟩ := List.mem_filterMap.mp h1
  exact List.mem_of_getElem? hi
theorem q_wOi : Cond.instanceMethod objectInit ∈ lw_tbl := List.mem_of_getElem? (i := 124) (by decide +kernel)
theorem q_wOc : Cond.code objectInit ⟨#[0xb1]⟩ 1 none ∈ lw_tbl := q_tk1 (List.mem_of_getElem? (i := 29) rfl)
theorem q_wSmax : Cond.static Lib.Math.max.name ∈ lw_tbl := List.mem_of_getElem? (i := 142) (by decide +kernel)
theorem q_wCmax : Cond.code Lib.Math.max.name Lib.Math.max.code 2 (some .int) ∈ lw_tbl := q_tk1 (List.mem_of_getElem? (i := 47) rfl)
theorem q_wSmin : Cond.static Lib.Math.min.name ∈ lw_tbl := List.mem_of_getElem? (i := 139) (by decide +kernel)
theorem q_wCmin : Cond.code Lib.Math.min.name Lib.Math.min.code 2 (some .int) ∈ lw_tbl := q_tk1 (List.mem_of_getElem? (i := 44) rfl)
theorem q_wSabs : Cond.static Lib.Math.abs.name ∈ lw_tbl := List.mem_of_getElem? (i := 466) (by decide +kernel)
theorem q_wCabs : Cond.code Lib.Math.abs.name Lib.Math.abs.code 1 (some .int) ∈ lw_tbl := q_tk2 (List.mem_of_getElem? (i := 131) rfl)
theorem q_wM : Cond.initialized "java/lang/Math" ∈ lw_tbl := List.mem_of_getElem? (i := 100) (by decide +kernel)
theorem q_wAn : Cond.native arraycopyName ∈ lw_tbl := List.mem_of_getElem? (i := 1125) (by decide +kernel)
theorem q_wAs : Cond.static arraycopyName ∈ lw_tbl := List.mem_of_getElem? (i := 1124) (by decide +kernel)
theorem q_wAi : Cond.initialized "java/lang/System" ∈ lw_tbl := List.mem_of_getElem? (i := 117) (by decide +kernel)
theorem q_wTi : Cond.arrayClass .int ∈ lw_tbl := List.mem_of_getElem? (i := 157) (by decide +kernel)
theorem q_wTz : Cond.arrayClass .boolean ∈ lw_tbl := List.mem_of_getElem? (i := 1456) (by decide +kernel)
theorem q_wL1 : Cond.laysStatic RX10 "ABOVE" "[I" ∈ lw_tbl := List.mem_of_getElem? (i := 494) (by decide +kernel)
theorem q_wN1 : Cond.initialized RX10 ∈ lw_tbl := List.mem_of_getElem? (i := 98) (by decide +kernel)
theorem q_wL2 : Cond.laysStatic RX3 "WAY_X" "[I" ∈ lw_tbl := List.mem_of_getElem? (i := 937) (by decide +kernel)
theorem q_wN2 : Cond.initialized RX3 ∈ lw_tbl := List.mem_of_getElem? (i := 109) (by decide +kernel)
theorem q_wL3 : Cond.laysStatic RX3 "WAY_Y" "[I" ∈ lw_tbl := List.mem_of_getElem? (i := 939) (by decide +kernel)
theorem q_wN3 : Cond.initialized RX3 ∈ lw_tbl := List.mem_of_getElem? (i := 109) (by decide +kernel)
theorem q_wL4 : Cond.laysStatic RX9 "BODIES" "[I" ∈ lw_tbl := List.mem_of_getElem? (i := 1156) (by decide +kernel)
theorem q_wN4 : Cond.initialized RX9 ∈ lw_tbl := List.mem_of_getElem? (i := 107) (by decide +kernel)
theorem q_wL5 : Cond.laysStatic RX12 "WAY_X" "[I" ∈ lw_tbl := List.mem_of_getElem? (i := 1743) (by decide +kernel)
theorem q_wN5 : Cond.initialized RX12 ∈ lw_tbl := List.mem_of_getElem? (i := 108) (by decide +kernel)
theorem q_wL6 : Cond.laysStatic RX12 "WAY_Y" "[I" ∈ lw_tbl := List.mem_of_getElem? (i := 1745) (by decide +kernel)
theorem q_wN6 : Cond.initialized RX12 ∈ lw_tbl := List.mem_of_getElem? (i := 108) (by decide +kernel)
theorem q_wLc : Cond.laysStatic "java/lang/String" "COMPACT_STRINGS" "Z" ∈ lw_tbl := List.mem_of_getElem? (i := 813) (by decide +kernel)
theorem q_wNc : Cond.initialized "java/lang/String" ∈ lw_tbl := List.mem_of_getElem? (i := 111) (by decide +kernel)
theorem q_wR0 : Cond.stringRef RX8 83 "fmwt" ∈ lw_tbl := List.mem_of_getElem? (i := 797) (by decide +kernel)
theorem q_wR1 : Cond.stringRef RX8 85 "shan" ∈ lw_tbl := List.mem_of_getElem? (i := 798) (by decide +kernel)
theorem q_wR2 : Cond.stringRef RX8 87 "du" ∈ lw_tbl := List.mem_of_getElem? (i := 799) (by decide +kernel)
def q_tbl : List Cond := lw_tbl.filter goodWord
theorem q_use {w : Cond} (h : w ∈ lw_tbl) (g : goodWord w = true) : w ∈ q_tbl := List.mem_filter.mpr ⟨h, g⟩
theorem q_goodIn : GoodIn q_tbl q_tbl := fun w h => ⟨h, good_of_word (List.mem_filter.mp h).2⟩
theorem q_lay {C : String} {T : u_T} {N : Nat} (h : ∀ w ∈ u_ws C T N, w ∈ lw_tbl) : ∀ w ∈ u_ws C T N, w ∈ q_tbl := fun w hw => q_use (h w hw) (by obtain ⟨k, -, rfl⟩ := List.mem_map.mp hw; unfold u_lay; split <;> rfl)
def q_dc (i : Nat) : Bool := (List.range (q_clD i).2.2).all (fun k => ((q_clD i).2.1 k).1 == (q_clD i).1)
theorem q_dc_ok : (List.range 11).all q_dc = true := by decide +kernel
/-- what is known of the class i of an object -/
theorem q_clF {i : Nat} (h : i < 11) : (∀ w ∈ u_ws (q_clD i).1 (q_clD i).2.1 (q_clD i).2.2, w ∈ q_tbl) ∧ (∀ k, k < (q_clD i).2.2 → parseFieldDescriptor ((q_clD i).2.1 k).2.2.1 = some (q_ty i k)) ∧ (∀ a, a < (q_clD i).2.2 → ∀ b, b < (q_clD i).2.2 → a ≠ b → ((q_clD i).2.1 a).2.1 ≠ ((q_clD i).2.1 b).2.1) ∧ q_cls[i]? = some (q_clD i) := match i, h with
  | 0, _ => ⟨q_lay q_inX0, tyX0_ok, nmX0, rfl⟩
  | 1, _ => ⟨q_lay q_inX1, tyX1_ok, nmX1, rfl⟩
  | 2, _ => ⟨q_lay q_inX4, tyX4_ok, nmX4, rfl⟩
  | 3, _ => ⟨q_lay q_inX5, tyX5_ok, nmX5, rfl⟩
  | 4, _ => ⟨q_lay q_inX6, tyX6_ok, nmX6, rfl⟩
  | 5, _ => ⟨q_lay q_inX7, tyX7_ok, nmX7, rfl⟩
  | 6, _ => ⟨q_lay q_inX8, tyX8_ok, nmX8, rfl⟩
  | 7, _ => ⟨q_lay q_inX9, tyX9_ok, nmX9, rfl⟩
  | 8, _ => ⟨q_lay q_inX10, tyX10_ok, nmX10, rfl⟩
  | 9, _ => ⟨q_lay q_inX11, tyX11_ok, nmX11, rfl⟩
  | 10, _ => ⟨q_lay q_inX12, tyX12_ok, nmX12, rfl⟩
  | i + 11, h => absurd h (by omega)
theorem q_clDecl {i k : Nat} (h : i < 11) (hk : k < (q_clD i).2.2) : ((q_clD i).2.1 k).1 = (q_clD i).1 := by
  have h1 := List.all_eq_true.mp q_dc_ok i (List.mem_range.mpr h)
  exact eq_of_beq (List.all_eq_true.mp h1 k (List.mem_range.mpr hk))
def q_fB (q : Nat × Nat × Nat × Nat) : Bool := decide (q.2.2.1 < 11) && decide (q.2.2.2 < (q_clD q.2.2.1).2.2)
theorem q_fB_ok : q_fldT.all q_fB = true := by decide +kernel
theorem q_nB_ok : q_newT.all (fun q => decide (q.2.2 < 11)) = true := by decide +kernel
theorem q_sB_ok : q_staT.all (fun q => decide (1 ≤ q.2.2 ∧ q.2.2 < 7)) = true := by decide +kernel
theorem q_iR2 : q_mT2.all (fun q => decide ((q_mi q.2.2.2).2.2.2.2 = none ∧ (q_mi q.2.2.2).2.1.name = "<init>")) = true := by decide +kernel
theorem q_iR4 : q_mT4.all (fun q => decide ((q_mi q.2.2.2).2.2.2.2 = none ∧ (q_mi q.2.2.2).2.1.name = "<init>")) = true := by decide +kernel
def q_oc (o : Nat) : Nat := ([0, 1, 99, 99, 2, 3, 4, 5, 6, 7, 8, 9, 10, 99, 99, 99, 99] : List Nat).getD o 99
theorem q_vR5 : q_mT5.all (fun q => (q_mi q.2.2.2).2.1.cls == "java/lang/String") = true := by decide +kernel
theorem q_tR : q_strT.all (fun q => decide (q.1 = 8 ∧ q.2.2 < 3 ∧ q.2.1 = 83 + 2 * q.2.2)) = true := by decide +kernel
theorem q_fR : q_sfT.all (fun q => decide (q.2.2 < 2)) = true := by decide +kernel
theorem q_vR1 : q_mT1.all (fun q => decide (q_oc (q_mi q.2.2.2).1 < 11) && ((q_clD (q_oc (q_mi q.2.2.2).1)).1 == (q_mi q.2.2.2).2.1.cls)) = true := by decide +kernel
theorem q_aO : q_all.all (fun q => decide (q.1 < 17) && (q_cn q.1 == q.2.1.cls)) = true := by decide +kernel
theorem q_ocN : (List.range 17).all (fun o => decide (q_oc o < 11 → q_cn o = (q_clD (q_oc o)).1)) = true := by decide +kernel
