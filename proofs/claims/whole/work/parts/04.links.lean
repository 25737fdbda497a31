/-! shapes, methods, links: written by wip/tools/gen_links.py out of the printed tables -/
theorem gt_t1 {w : Cond} (i : Nat) (h : tables_1_1[i]? = some w) (hg : goodWord w = true) : w ∈ gt := List.mem_filter.mpr ⟨List.mem_append_right _ (List.mem_append_left _ (List.mem_of_getElem? h)), hg⟩
theorem nw_t1 {w : Cond} (i : Nat) (h : tables_1_1[i]? = some w) (hg : zisN w = true) : w ∈ nw := List.mem_filter.mpr ⟨(List.mem_append_left _ (List.mem_of_getElem? h)), hg⟩
theorem gt_t2 {w : Cond} (i : Nat) (h : tables_1_2[i]? = some w) (hg : goodWord w = true) : w ∈ gt := List.mem_filter.mpr ⟨List.mem_append_right _ (List.mem_append_right _ (List.mem_append_left _ (List.mem_of_getElem? h))), hg⟩
theorem nw_t2 {w : Cond} (i : Nat) (h : tables_1_2[i]? = some w) (hg : zisN w = true) : w ∈ nw := List.mem_filter.mpr ⟨(List.mem_append_right _ (List.mem_append_left _ (List.mem_of_getElem? h))), hg⟩
theorem gt_t3 {w : Cond} (i : Nat) (h : tables_1_3[i]? = some w) (hg : goodWord w = true) : w ∈ gt := List.mem_filter.mpr ⟨List.mem_append_right _ (List.mem_append_right _ (List.mem_append_right _ (List.mem_append_left _ (List.mem_of_getElem? h)))), hg⟩
theorem nw_t3 {w : Cond} (i : Nat) (h : tables_1_3[i]? = some w) (hg : zisN w = true) : w ∈ nw := List.mem_filter.mpr ⟨(List.mem_append_right _ (List.mem_append_right _ (List.mem_append_left _ (List.mem_of_getElem? h)))), hg⟩
theorem gt_t4 {w : Cond} (i : Nat) (h : tables_1_4[i]? = some w) (hg : goodWord w = true) : w ∈ gt := List.mem_filter.mpr ⟨List.mem_append_right _ (List.mem_append_right _ (List.mem_append_right _ (List.mem_append_right _ (List.mem_append_left _ (List.mem_of_getElem? h))))), hg⟩
theorem nw_t4 {w : Cond} (i : Nat) (h : tables_1_4[i]? = some w) (hg : zisN w = true) : w ∈ nw := List.mem_filter.mpr ⟨(List.mem_append_right _ (List.mem_append_right _ (List.mem_append_right _ (List.mem_append_left _ (List.mem_of_getElem? h))))), hg⟩
theorem gt_t5 {w : Cond} (i : Nat) (h : tables_1_5[i]? = some w) (hg : goodWord w = true) : w ∈ gt := List.mem_filter.mpr ⟨List.mem_append_right _ (List.mem_append_right _ (List.mem_append_right _ (List.mem_append_right _ (List.mem_append_right _ (List.mem_append_left _ (List.mem_of_getElem? h)))))), hg⟩
theorem nw_t5 {w : Cond} (i : Nat) (h : tables_1_5[i]? = some w) (hg : zisN w = true) : w ∈ nw := List.mem_filter.mpr ⟨(List.mem_append_right _ (List.mem_append_right _ (List.mem_append_right _ (List.mem_append_right _ (List.mem_append_left _ (List.mem_of_getElem? h)))))), hg⟩
theorem gt_t6 {w : Cond} (i : Nat) (h : tables_1_6[i]? = some w) (hg : goodWord w = true) : w ∈ gt := List.mem_filter.mpr ⟨List.mem_append_right _ (List.mem_append_right _ (List.mem_append_right _ (List.mem_append_right _ (List.mem_append_right _ (List.mem_append_right _ (List.mem_append_left _ (List.mem_of_getElem? h))))))), hg⟩
theorem nw_t6 {w : Cond} (i : Nat) (h : tables_1_6[i]? = some w) (hg : zisN w = true) : w ∈ nw := List.mem_filter.mpr ⟨(List.mem_append_right _ (List.mem_append_right _ (List.mem_append_right _ (List.mem_append_right _ (List.mem_append_right _ (List.mem_append_left _ (List.mem_of_getElem? h))))))), hg⟩
theorem gt_t7 {w : Cond} (i : Nat) (h : tables_1_7[i]? = some w) (hg : goodWord w = true) : w ∈ gt := List.mem_filter.mpr ⟨List.mem_append_right _ (List.mem_append_right _ (List.mem_append_right _ (List.mem_append_right _ (List.mem_append_right _ (List.mem_append_right _ (List.mem_append_right _ (List.mem_append_left _ (List.mem_of_getElem? h)))))))), hg⟩
theorem nw_t7 {w : Cond} (i : Nat) (h : tables_1_7[i]? = some w) (hg : zisN w = true) : w ∈ nw := List.mem_filter.mpr ⟨(List.mem_append_right _ (List.mem_append_right _ (List.mem_append_right _ (List.mem_append_right _ (List.mem_append_right _ (List.mem_append_right _ (List.mem_append_left _ (List.mem_of_getElem? h)))))))), hg⟩
theorem gt_t8 {w : Cond} (i : Nat) (h : tables_1_8[i]? = some w) (hg : goodWord w = true) : w ∈ gt := List.mem_filter.mpr ⟨List.mem_append_right _ (List.mem_append_right _ (List.mem_append_right _ (List.mem_append_right _ (List.mem_append_right _ (List.mem_append_right _ (List.mem_append_right _ (List.mem_append_right _ (List.mem_append_left _ (List.mem_of_getElem? h))))))))), hg⟩
theorem nw_t8 {w : Cond} (i : Nat) (h : tables_1_8[i]? = some w) (hg : zisN w = true) : w ∈ nw := List.mem_filter.mpr ⟨(List.mem_append_right _ (List.mem_append_right _ (List.mem_append_right _ (List.mem_append_right _ (List.mem_append_right _ (List.mem_append_right _ (List.mem_append_right _ (List.mem_append_left _ (List.mem_of_getElem? h))))))))), hg⟩
theorem gt_t9 {w : Cond} (i : Nat) (h : tables_1_9[i]? = some w) (hg : goodWord w = true) : w ∈ gt := List.mem_filter.mpr ⟨List.mem_append_right _ (List.mem_append_right _ (List.mem_append_right _ (List.mem_append_right _ (List.mem_append_right _ (List.mem_append_right _ (List.mem_append_right _ (List.mem_append_right _ (List.mem_append_right _ (List.mem_of_getElem? h))))))))), hg⟩
theorem nw_t9 {w : Cond} (i : Nat) (h : tables_1_9[i]? = some w) (hg : zisN w = true) : w ∈ nw := List.mem_filter.mpr ⟨(List.mem_append_right _ (List.mem_append_right _ (List.mem_append_right _ (List.mem_append_right _ (List.mem_append_right _ (List.mem_append_right _ (List.mem_append_right _ (List.mem_append_right _ (List.mem_of_getElem? h))))))))), hg⟩
theorem ck_mem (ws : List Cond) (ps : List Nat) (hp : ws = ps.filterMap (fun i => tables_1[i]?)) (h : ws.all goodWord = true) : ∀ w ∈ ws, w ∈ gt := by
  intro w hw
  have h1 := List.all_eq_true.mp h w hw
  rw [hp] at hw
  obtain ⟨i, -, hi⟩ := List.mem_filterMap.mp hw
  exact List.mem_filter.mpr ⟨List.mem_append_right _ (List.mem_of_getElem? hi), h1⟩
theorem gt_sel {w : Cond} (i : Nat) (h : (k2_sels lw_privs)[i]? = some w) (hg : goodWord w = true) : w ∈ gt := List.mem_filter.mpr ⟨List.mem_append_left _ (List.mem_of_getElem? h), hg⟩
def SC : List zSh := [.inr (.inl (11, [.inr (some 1), .inr (some 3), .inr (some 5), .inr (some 16), .inr (some 27), .inr (some 35), .inr (some 43), .inr (some 48), .inr (some 53), .inr (some 67), .inr (some 81), .inr (some 85), .inr (some 91), .inr (some 97), .inr (some 98), .inr (some 99), .inl 0])), .inr (.inl (7, [.inr (some 2), .inl 0])), .inl (0, 940), .inr (.inl (5, [.inr (some 1), .inr (some 4), .inl 0, .inl 0, .inl 0, .inl 0, .inl 0, .inl 0])), .inl (0, 26), .inr (.inl (9, [.inl 0, .inl 0, .inl 0, .inl 0, .inr (some 6), .inr (some 7), .inr (some 8), .inr (some 9), .inr (some 10), .inr (some 11), .inr (some 12), .inr (some 13), .inr (some 14), .inr (some 15)])), .inl (0, 8), .inl (0, 8), .inl (0, 12), .inl (0, 12), .inl (0, 12), .inl (0, 12), .inl (0, 8), .inl (0, 8), .inl (0, 96), .inl (0, 5), .inr (.inl (9, [.inl 0, .inl 0, .inl 0, .inl 0, .inr (some 17), .inr (some 18), .inr (some 19), .inr (some 20), .inr (some 21), .inr (some 22), .inr (some 23), .inr (some 24), .inr (some 25), .inr (some 26)])), .inl (0, 8), .inl (0, 8), .inl (0, 12), .inl (0, 12), .inl (0, 12), .inl (0, 12), .inl (0, 8), .inl (0, 8), .inl (0, 96), .inl (0, 5), .inr (.inl (0, [.inl 0, .inl 0, .inr (some 28), .inr (some 29), .inr (some 30), .inr (some 31), .inr (some 32), .inr (some 33), .inr (some 34)])), .inl (0, 60), .inl (0, 60), .inl (0, 60), .inl (0, 60), .inl (0, 60), .inl (0, 60), .inl (0, 60), .inr (.inl (0, [.inl 0, .inl 0, .inr (some 36), .inr (some 37), .inr (some 38), .inr (some 39), .inr (some 40), .inr (some 41), .inr (some 42)])), .inl (0, 60), .inl (0, 60), .inl (0, 60), .inl (0, 60), .inl (0, 60), .inl (0, 60), .inl (0, 60), .inr (.inl (6, [.inl 0, .inl 0, .inr (some 44), .inr (some 45), .inr (some 46), .inr (some 47)])), .inl (0, 40), .inl (0, 40), .inl (0, 40), .inl (0, 40), .inr (.inl (6, [.inl 0, .inl 0, .inr (some 49), .inr (some 50), .inr (some 51), .inr (some 52)])), .inl (0, 40), .inl (0, 40), .inl (0, 40), .inl (0, 40), .inr (.inl (4, [.inr (some 5), .inr (some 27), .inr (some 54), .inr (some 55), .inr (some 56), .inr (some 57), .inr (some 58), .inl 0, .inl 0, .inr (some 59), .inr (some 60), .inr (some 61), .inr (some 62), .inr (some 63), .inr (some 64), .inr (some 65), .inr (some 66)])), .inl (0, 8), .inl (0, 8), .inl (0, 8), .inl (0, 96), .inl (0, 60), .inl (0, 128), .inl (0, 128), .inl (0, 128), .inl (0, 128), .inl (0, 128), .inl (0, 128), .inl (0, 128), .inl (0, 128), .inr (.inl (4, [.inr (some 5), .inr (some 27), .inr (some 68), .inr (some 69), .inr (some 70), .inr (some 71), .inr (some 72), .inl 0, .inl 0, .inr (some 73), .inr (some 74), .inr (some 75), .inr (some 76), .inr (some 77), .inr (some 78), .inr (some 79), .inr (some 80)])), .inl (0, 8), .inl (0, 8), .inl (0, 8), .inl (0, 96), .inl (0, 60), .inl (0, 128), .inl (0, 128), .inl (0, 128), .inl (0, 128), .inl (0, 128), .inl (0, 128), .inl (0, 128), .inl (0, 128), .inr (.inl (2, [.inl 3, .inl 0, .inl 0, .inl 0, .inr (some 82), .inr (some 83), .inr (some 84)])), .inl (0, 8), .inl (0, 8), .inl (1, 256), .inr (.inl (10, [.inr (some 86), .inr (some 87), .inr (some 88), .inr (some 89), .inr (some 90)])), .inl (0, 12), .inl (0, 12), .inl (0, 12), .inl (0, 12), .inl (0, 13), .inr (.inl (8, [.inl 0, .inr (some 92), .inr (some 93), .inr (some 94), .inr (some 95), .inl 0, .inr (some 96)])), .inl (0, 5), .inl (0, 5), .inl (0, 5), .inl (0, 5), .inl (0, 5), .inr (.inl (1, [.inl 0])), .inl (0, 4), .inr (.inr [some 100, some 125]), .inr (.inl (3, [.inl 3, .inr (some 101), .inr (some 112), .inr (some 120)])), .inr (.inl (9, [.inl 0, .inl 0, .inl 0, .inl 0, .inr (some 102), .inr (some 103), .inr (some 104), .inr (some 105), .inr (some 106), .inr (some 107), .inr (some 108), .inr (some 109), .inr (some 110), .inr (some 111)])), .inl (0, 8), .inl (0, 8), .inl (0, 12), .inl (0, 12), .inl (0, 12), .inl (0, 12), .inl (0, 8), .inl (0, 8), .inl (0, 96), .inl (0, 5), .inr (.inl (0, [.inl 0, .inl 0, .inr (some 113), .inr (some 114), .inr (some 115), .inr (some 116), .inr (some 117), .inr (some 118), .inr (some 119)])), .inl (0, 60), .inl (0, 60), .inl (0, 60), .inl (0, 60), .inl (0, 60), .inl (0, 60), .inl (0, 60), .inr (.inl (6, [.inl 0, .inl 0, .inr (some 121), .inr (some 122), .inr (some 123), .inr (some 124)])), .inl (0, 40), .inl (0, 40), .inl (0, 40), .inl (0, 40), .inr (.inl (3, [.inl 3, .inr (some 126), .inr (some 137), .inr (some 145)])), .inr (.inl (9, [.inl 0, .inl 0, .inl 0, .inl 0, .inr (some 127), .inr (some 128), .inr (some 129), .inr (some 130), .inr (some 131), .inr (some 132), .inr (some 133), .inr (some 134), .inr (some 135), .inr (some 136)])), .inl (0, 8), .inl (0, 8), .inl (0, 12), .inl (0, 12), .inl (0, 12), .inl (0, 12), .inl (0, 8), .inl (0, 8), .inl (0, 96), .inl (0, 5), .inr (.inl (0, [.inl 0, .inl 0, .inr (some 138), .inr (some 139), .inr (some 140), .inr (some 141), .inr (some 142), .inr (some 143), .inr (some 144)])), .inl (0, 60), .inl (0, 60), .inl (0, 60), .inl (0, 60), .inl (0, 60), .inl (0, 60), .inl (0, 60), .inr (.inl (6, [.inl 0, .inl 0, .inr (some 146), .inr (some 147), .inr (some 148), .inr (some 149)])), .inl (0, 40), .inl (0, 40), .inl (0, 40), .inl (0, 40)]
def SM : List zSh := [.inr (.inl (12, [.inl 0, .inr (some 1), .inl 0, .inl 0, .inl 0, .inl 0, .inr (some 2), .inr (some 3), .inr (some 4), .inr (some 5), .inr (some 6), .inl 0, .inl 0, .inl 0, .inl 0, .inl 0, .inl 0, .inl 1, .inl 0, .inl 0, .inl 0, .inl 0, .inl 0, .inr (some 7), .inr (some 8), .inr (some 9), .inr (some 10), .inl 0, .inr (some 11), .inr (some 12), .inr (some 13), .inr (some 14), .inr (some 15), .inr (some 16), .inr (some 17), .inr (some 18), .inr (some 19), .inr (some 20), .inr (some 21), .inr (some 22), .inr (some 23), .inr (some 24), .inr (some 25), .inl 0, .inl 0, .inl 0, .inl 0, .inr (some 26), .inr (some 27), .inr (some 28), .inl 0, .inr (some 29), .inr (some 30), .inl 0, .inl 0, .inl 0, .inl 0, .inr (some 31), .inr (some 32), .inr (some 33), .inl 0, .inr (some 34), .inr (some 35), .inr (some 36), .inr (some 37), .inr (some 38), .inl 0, .inl 0, .inl 0, .inr (some 39), .inr (some 40), .inr (some 41)])), .inl (2, 940), .inl (0, 666), .inl (0, 172), .inl (0, 300), .inl (1, 40), .inl (1, 26), .inl (0, 8), .inl (0, 60), .inl (0, 60), .inl (0, 120), .inl (0, 8), .inl (0, 96), .inl (0, 8), .inl (0, 8), .inl (0, 60), .inl (0, 420), .inl (0, 420), .inl (0, 420), .inl (0, 420), .inl (0, 420), .inl (0, 420), .inl (0, 420), .inl (0, 420), .inl (0, 420), .inl (0, 420), .inl (0, 36864), .inl (0, 8), .inl (0, 8), .inl (0, 421), .inl (0, 13), .inl (0, 5), .inl (0, 5), .inl (0, 15), .inl (0, 4), .inl (0, 4), .inl (0, 192), .inl (0, 30), .inl (3, 64), .inl (0, 1332), .inl (1, 40), .inl (3, 2)]
theorem ck_0 : zCK 0 RX0 TX0 9 tyX0 := ⟨rfl, ck_mem _ [257, 259, 261, 263, 265, 267, 269, 271, 273] (by decide +kernel) (by decide +kernel), tyX0_ok, nmX0⟩
theorem ck_1 : zCK 1 RX1 TX1 1 tyX1 := ⟨rfl, ck_mem _ [477] (by decide +kernel) (by decide +kernel), tyX1_ok, nmX1⟩
theorem ck_2 : zCK 2 RX2 TX2 7 tyX2 := ⟨rfl, ck_mem _ [401, 403, 405, 407, 409, 411, 413] (by decide +kernel) (by decide +kernel), tyX2_ok, nmX2⟩
theorem ck_3 : zCK 3 RX3 TX3 4 tyX3 := ⟨rfl, ck_mem _ [501, 503, 505, 507] (by decide +kernel) (by decide +kernel), tyX3_ok, nmX3⟩
theorem ck_4 : zCK 4 RX4 TX4 17 tyX4 := ⟨rfl, ck_mem _ [348, 350, 352, 354, 356, 358, 360, 362, 364, 366, 368, 370, 372, 374, 376, 378, 380] (by decide +kernel) (by decide +kernel), tyX4_ok, nmX4⟩
theorem ck_5 : zCK 5 RX5 TX5 8 tyX5 := ⟨rfl, ck_mem _ [125, 127, 129, 131, 133, 135, 137, 139] (by decide +kernel) (by decide +kernel), tyX5_ok, nmX5⟩
theorem ck_6 : zCK 6 RX6 TX6 6 tyX6 := ⟨rfl, ck_mem _ [289, 291, 293, 295, 297, 299] (by decide +kernel) (by decide +kernel), tyX6_ok, nmX6⟩
theorem ck_7 : zCK 7 RX7 TX7 2 tyX7 := ⟨rfl, ck_mem _ [48, 50] (by decide +kernel) (by decide +kernel), tyX7_ok, nmX7⟩
theorem ck_8 : zCK 8 RX8 TX8 7 tyX8 := ⟨rfl, ck_mem _ [454, 456, 458, 460, 462, 464, 466] (by decide +kernel) (by decide +kernel), tyX8_ok, nmX8⟩
theorem ck_9 : zCK 9 RX9 TX9 14 tyX9 := ⟨rfl, ck_mem _ [197, 199, 201, 203, 205, 207, 209, 211, 213, 215, 217, 219, 221, 223] (by decide +kernel) (by decide +kernel), tyX9_ok, nmX9⟩
theorem ck_10 : zCK 10 RX10 TX10 5 tyX10 := ⟨rfl, ck_mem _ [428, 430, 432, 434, 436] (by decide +kernel) (by decide +kernel), tyX10_ok, nmX10⟩
theorem ck_11 : zCK 11 RX11 TX11 17 tyX11 := ⟨rfl, ck_mem _ [527, 529, 531, 533, 535, 537, 539, 541, 543, 545, 547, 549, 551, 553, 555, 557, 559] (by decide +kernel) (by decide +kernel), tyX11_ok, nmX11⟩
theorem ck_12 : zCK 12 RX12 TX12 72 tyX12 := ⟨rfl, ck_mem _ [1425, 1427, 1429, 1431, 1433, 1435, 1437, 1439, 1441, 1443, 1445, 1447, 1449, 1451, 1453, 1455, 1457, 1459, 1461, 1463, 1465, 1467, 1469, 1471, 1473, 1475, 1477, 1479, 1481, 1483, 1485, 1487, 1489, 1491, 1493, 1495, 1497, 1499, 1501, 1503, 1505, 1507, 1509, 1511, 1513, 1515, 1517, 1519, 1521, 1523, 1525, 1527, 1529, 1531, 1533, 1535, 1537, 1539, 1541, 1543, 1545, 1547, 1549, 1551, 1553, 1555, 1557, 1559, 1561, 1563, 1565, 1567] (by decide +kernel) (by decide +kernel), tyX12_ok, nmX12⟩
def m_X0_init : zMI := (yX0_init, cX0_init, 1, none)
set_option maxRecDepth 20000 in
theorem mk_X0_init : zMok m_X0_init 0 := ⟨gt_t1 230 rfl rfl, rfl, by decide, by decide, by decide +kernel, by decide, gt_t1 11 (by decide +kernel) rfl⟩
def m_X0_clear : zMI := (yX0_clear, cX0_clear, 1, none)
set_option maxRecDepth 20000 in
theorem mk_X0_clear : zMok m_X0_clear 0 := ⟨gt_t3 210 rfl rfl, rfl, by decide, by decide, by decide +kernel, by decide, gt_t1 11 (by decide +kernel) rfl⟩
def m_X0_copy : zMI := (yX0_copy, cX0_copy, 2, none)
set_option maxRecDepth 20000 in
theorem mk_X0_copy : zMok m_X0_copy 1 := ⟨gt_t4 112 rfl rfl, rfl, by decide, by decide, by decide +kernel, by decide, gt_t1 11 (by decide +kernel) rfl⟩
def m_X0_hasLine : zMI := (yX0_hasLine, cX0_hasLine, 2, (some .boolean))
set_option maxRecDepth 20000 in
theorem mk_X0_hasLine : zMok m_X0_hasLine 1 := ⟨gt_t4 134 rfl rfl, rfl, by decide, by decide, by decide +kernel, by decide, gt_t1 11 (by decide +kernel) rfl⟩
def m_X0_addDay : zMI := (yX0_addDay, cX0_addDay, 2, none)
set_option maxRecDepth 20000 in
theorem mk_X0_addDay : zMok m_X0_addDay 1 := ⟨gt_t4 91 rfl rfl, rfl, by decide, by decide, by decide +kernel, by decide, gt_t1 11 (by decide +kernel) rfl⟩
def m_X0_add : zMI := (yX0_add, cX0_add, 7, none)
set_option maxRecDepth 20000 in
theorem mk_X0_add : zMok m_X0_add 6 := ⟨gt_t4 95 rfl rfl, rfl, by decide, by decide, by decide +kernel, by decide, gt_t1 11 (by decide +kernel) rfl⟩
def m_X0_draw : zMI := (yX0_draw, cX0_draw, 9, none)
set_option maxRecDepth 20000 in
theorem mk_X0_draw : zMok m_X0_draw 3 := ⟨gt_t4 121 rfl rfl, rfl, by decide, by decide, by decide +kernel, by decide, gt_t1 11 (by decide +kernel) rfl⟩
def m_X0_take : zMI := (yX0_take, cX0_take, 4, (some .boolean))
set_option maxRecDepth 20000 in
theorem mk_X0_take : zMok m_X0_take 2 := ⟨gt_t4 73 rfl rfl, rfl, by decide, by decide, by decide +kernel, by decide, gt_t1 11 (by decide +kernel) rfl⟩
def m_X0_takeLine : zMI := (yX0_takeLine, cX0_takeLine, 4, (some .boolean))
set_option maxRecDepth 20000 in
theorem mk_X0_takeLine : zMok m_X0_takeLine 2 := ⟨gt_t4 79 rfl rfl, rfl, by decide, by decide, by decide +kernel, by decide, gt_t1 11 (by decide +kernel) rfl⟩
def m_X0_takeDay : zMI := (yX0_takeDay, cX0_takeDay, 3, (some .boolean))
set_option maxRecDepth 20000 in
theorem mk_X0_takeDay : zMok m_X0_takeDay 1 := ⟨gt_t4 84 rfl rfl, rfl, by decide, by decide, by decide +kernel, by decide, gt_t1 11 (by decide +kernel) rfl⟩
def m_X0_takeDeed : zMI := (yX0_takeDeed, cX0_takeDeed, 8, (some .boolean))
set_option maxRecDepth 20000 in
theorem mk_X0_takeDeed : zMok m_X0_takeDeed 3 := ⟨gt_t4 101 rfl rfl, rfl, by decide, by decide, by decide +kernel, by decide, gt_t1 11 (by decide +kernel) rfl⟩
def m_X0_takeWith : zMI := (yX0_takeWith, cX0_takeWith, 11, (some .boolean))
set_option maxRecDepth 20000 in
theorem mk_X0_takeWith : zMok m_X0_takeWith 5 := ⟨gt_t4 106 rfl rfl, rfl, by decide, by decide, by decide +kernel, by decide, gt_t1 11 (by decide +kernel) rfl⟩
def m_X1_init : zMI := (yX1_init, cX1_init, 1, none)
set_option maxRecDepth 20000 in
theorem mk_X1_init : zMok m_X1_init 0 := ⟨gt_t2 233 rfl rfl, rfl, by decide, by decide, by decide +kernel, by decide, gt_t1 17 (by decide +kernel) rfl⟩
def m_X1_draw : zMI := (yX1_draw, cX1_draw, 2, (some .int))
set_option maxRecDepth 20000 in
theorem mk_X1_draw : zMok m_X1_draw 1 := ⟨gt_t4 125 rfl rfl, rfl, by decide, by decide, by decide +kernel, by decide, gt_t1 17 (by decide +kernel) rfl⟩
def m_X2_init : zMI := (yX2_init, cX2_init, 1, none)
set_option maxRecDepth 20000 in
theorem mk_X2_init : zMok m_X2_init 0 := ⟨gt_t2 147 rfl rfl, rfl, by decide, by decide, by decide +kernel, by decide, gt_t1 14 (by decide +kernel) rfl⟩
def m_X2_settle : zMI := (yX2_settle, cX2_settle, 6, none)
set_option maxRecDepth 20000 in
theorem mk_X2_settle : zMok m_X2_settle 1 := ⟨gt_t4 181 rfl rfl, rfl, by decide, by decide, by decide +kernel, by decide, gt_t1 14 (by decide +kernel) rfl⟩
def m_X2_takeDebts : zMI := (yX2_takeDebts, cX2_takeDebts, 4, none)
set_option maxRecDepth 20000 in
theorem mk_X2_takeDebts : zMok m_X2_takeDebts 1 := ⟨gt_t4 185 rfl rfl, rfl, by decide, by decide, by decide +kernel, by decide, gt_t1 14 (by decide +kernel) rfl⟩
def m_X2_payableFor : zMI := (yX2_payableFor, cX2_payableFor, 5, (some .int))
set_option maxRecDepth 20000 in
theorem mk_X2_payableFor : zMok m_X2_payableFor 3 := ⟨gt_t4 192 rfl rfl, rfl, by decide, by decide, by decide +kernel, by decide, gt_t1 14 (by decide +kernel) rfl⟩
def m_X2_digitShift : zMI := (yX2_digitShift, cX2_digitShift, 1, (some .int))
set_option maxRecDepth 20000 in
theorem mk_X2_digitShift : zMok m_X2_digitShift 1 := ⟨gt_t4 205 rfl rfl, rfl, by decide, by decide, by decide +kernel, by decide, gt_t1 14 (by decide +kernel) rfl⟩
def m_X2_tryFact : zMI := (yX2_tryFact, cX2_tryFact, 8, none)
set_option maxRecDepth 20000 in
theorem mk_X2_tryFact : zMok m_X2_tryFact 3 := ⟨gt_t4 202 rfl rfl, rfl, by decide, by decide, by decide +kernel, by decide, gt_t1 14 (by decide +kernel) rfl⟩
def m_X2_unpaidBut : zMI := (yX2_unpaidBut, cX2_unpaidBut, 5, (some .long))
set_option maxRecDepth 20000 in
theorem mk_X2_unpaidBut : zMok m_X2_unpaidBut 1 := ⟨gt_t4 212 rfl rfl, rfl, by decide, by decide, by decide +kernel, by decide, gt_t1 14 (by decide +kernel) rfl⟩
def m_X2_keep : zMI := (yX2_keep, cX2_keep, 5, none)
set_option maxRecDepth 20000 in
theorem mk_X2_keep : zMok m_X2_keep 1 := ⟨gt_t4 218 rfl rfl, rfl, by decide, by decide, by decide +kernel, by decide, gt_t1 14 (by decide +kernel) rfl⟩
def m_X3_init : zMI := (yX3_init, cX3_init, 1, none)
set_option maxRecDepth 20000 in
theorem mk_X3_init : zMok m_X3_init 0 := ⟨gt_t3 5 rfl rfl, rfl, by decide, by decide, by decide +kernel, by decide, gt_t1 18 (by decide +kernel) rfl⟩
def m_X3_keep : zMI := (yX3_keep, cX3_keep, 4, none)
set_option maxRecDepth 20000 in
theorem mk_X3_keep : zMok m_X3_keep 3 := ⟨gt_t5 232 rfl rfl, rfl, by decide, by decide, by decide +kernel, by decide, gt_t1 18 (by decide +kernel) rfl⟩
def m_X4_init : zMI := (yX4_init, cX4_init, 3, none)
set_option maxRecDepth 20000 in
theorem mk_X4_init : zMok m_X4_init 2 := ⟨gt_t2 66 rfl rfl, rfl, by decide, by decide, by decide +kernel, by decide, gt_t1 13 (by decide +kernel) rfl⟩
def m_X4_clear : zMI := (yX4_clear, cX4_clear, 2, none)
set_option maxRecDepth 20000 in
theorem mk_X4_clear : zMok m_X4_clear 0 := ⟨gt_t3 226 rfl rfl, rfl, by decide, by decide, by decide +kernel, by decide, gt_t1 13 (by decide +kernel) rfl⟩
def m_X4_judge : zMI := (yX4_judge, cX4_judge, 3, none)
set_option maxRecDepth 20000 in
theorem mk_X4_judge : zMok m_X4_judge 1 := ⟨gt_t3 222 rfl rfl, rfl, by decide, by decide, by decide +kernel, by decide, gt_t1 13 (by decide +kernel) rfl⟩
def m_X4_judgeLine : zMI := (yX4_judgeLine, cX4_judgeLine, 8, (some .int))
set_option maxRecDepth 20000 in
theorem mk_X4_judgeLine : zMok m_X4_judgeLine 1 := ⟨gt_t3 234 rfl rfl, rfl, by decide, by decide, by decide +kernel, by decide, gt_t1 13 (by decide +kernel) rfl⟩
def m_X4_whyWrong : zMI := (yX4_whyWrong, cX4_whyWrong, 5, (some .int))
set_option maxRecDepth 20000 in
theorem mk_X4_whyWrong : zMok m_X4_whyWrong 3 := ⟨gt_t3 238 rfl rfl, rfl, by decide, by decide, by decide +kernel, by decide, gt_t1 13 (by decide +kernel) rfl⟩
def m_X4_lie : zMI := (yX4_lie, cX4_lie, 5, none)
set_option maxRecDepth 20000 in
theorem mk_X4_lie : zMok m_X4_lie 1 := ⟨gt_t4 7 rfl rfl, rfl, by decide, by decide, by decide +kernel, by decide, gt_t1 13 (by decide +kernel) rfl⟩
def m_X4_owe : zMI := (yX4_owe, cX4_owe, 4, none)
set_option maxRecDepth 20000 in
theorem mk_X4_owe : zMok m_X4_owe 3 := ⟨gt_t4 20 rfl rfl, rfl, by decide, by decide, by decide +kernel, by decide, gt_t1 13 (by decide +kernel) rfl⟩
def m_X4_tell : zMI := (yX4_tell, cX4_tell, 5, none)
set_option maxRecDepth 20000 in
theorem mk_X4_tell : zMok m_X4_tell 4 := ⟨gt_t4 24 rfl rfl, rfl, by decide, by decide, by decide +kernel, by decide, gt_t1 13 (by decide +kernel) rfl⟩
def m_X4_pay : zMI := (yX4_pay, cX4_pay, 5, none)
set_option maxRecDepth 20000 in
theorem mk_X4_pay : zMok m_X4_pay 3 := ⟨gt_t4 40 rfl rfl, rfl, by decide, by decide, by decide +kernel, by decide, gt_t1 13 (by decide +kernel) rfl⟩
def m_X4_learn : zMI := (yX4_learn, cX4_learn, 6, none)
set_option maxRecDepth 20000 in
theorem mk_X4_learn : zMok m_X4_learn 3 := ⟨gt_t4 44 rfl rfl, rfl, by decide, by decide, by decide +kernel, by decide, gt_t1 13 (by decide +kernel) rfl⟩
def m_X4_grown : zMI := (yX4_grown, cX4_grown, 2, (some .int))
set_option maxRecDepth 20000 in
theorem mk_X4_grown : zMok m_X4_grown 1 := ⟨gt_t4 52 rfl rfl, rfl, by decide, by decide, by decide +kernel, by decide, gt_t1 13 (by decide +kernel) rfl⟩
def m_X4_tellMore : zMI := (yX4_tellMore, cX4_tellMore, 5, (some .int))
set_option maxRecDepth 20000 in
theorem mk_X4_tellMore : zMok m_X4_tellMore 3 := ⟨gt_t5 75 rfl rfl, rfl, by decide, by decide, by decide +kernel, by decide, gt_t1 13 (by decide +kernel) rfl⟩
def m_X4_copyDebts : zMI := (yX4_copyDebts, cX4_copyDebts, 2, none)
set_option maxRecDepth 20000 in
theorem mk_X4_copyDebts : zMok m_X4_copyDebts 1 := ⟨gt_t5 61 rfl rfl, rfl, by decide, by decide, by decide +kernel, by decide, gt_t1 13 (by decide +kernel) rfl⟩
def m_X4_goBackTo : zMI := (yX4_goBackTo, cX4_goBackTo, 2, none)
set_option maxRecDepth 20000 in
theorem mk_X4_goBackTo : zMok m_X4_goBackTo 1 := ⟨gt_t5 67 rfl rfl, rfl, by decide, by decide, by decide +kernel, by decide, gt_t1 13 (by decide +kernel) rfl⟩
def m_X4_hasDebt : zMI := (yX4_hasDebt, cX4_hasDebt, 2, (some .boolean))
set_option maxRecDepth 20000 in
theorem mk_X4_hasDebt : zMok m_X4_hasDebt 1 := ⟨gt_t6 90 rfl rfl, rfl, by decide, by decide, by decide +kernel, by decide, gt_t1 13 (by decide +kernel) rfl⟩
def m_X4_isKnown : zMI := (yX4_isKnown, cX4_isKnown, 3, (some .boolean))
set_option maxRecDepth 20000 in
theorem mk_X4_isKnown : zMok m_X4_isKnown 2 := ⟨gt_t4 3 rfl rfl, rfl, by decide, by decide, by decide +kernel, by decide, gt_t1 13 (by decide +kernel) rfl⟩
def m_X4_freshFor : zMI := (yX4_freshFor, cX4_freshFor, 3, (some .int))
set_option maxRecDepth 20000 in
theorem mk_X4_freshFor : zMok m_X4_freshFor 2 := ⟨gt_t4 48 rfl rfl, rfl, by decide, by decide, by decide +kernel, by decide, gt_t1 13 (by decide +kernel) rfl⟩
def m_X4_oldValue : zMI := (yX4_oldValue, cX4_oldValue, 2, (some .int))
set_option maxRecDepth 20000 in
theorem mk_X4_oldValue : zMok m_X4_oldValue 1 := ⟨gt_t4 32 rfl rfl, rfl, by decide, by decide, by decide +kernel, by decide, gt_t1 13 (by decide +kernel) rfl⟩
def m_X4_valueFor : zMI := (yX4_valueFor, cX4_valueFor, 3, (some .int))
set_option maxRecDepth 20000 in
theorem mk_X4_valueFor : zMok m_X4_valueFor 2 := ⟨gt_t4 28 rfl rfl, rfl, by decide, by decide, by decide +kernel, by decide, gt_t1 13 (by decide +kernel) rfl⟩
def m_X4_knownToOthers : zMI := (yX4_knownToOthers, cX4_knownToOthers, 4, (some .int))
set_option maxRecDepth 20000 in
theorem mk_X4_knownToOthers : zMok m_X4_knownToOthers 1 := ⟨gt_t4 36 rfl rfl, rfl, by decide, by decide, by decide +kernel, by decide, gt_t1 13 (by decide +kernel) rfl⟩
def m_X4_knownToAll : zMI := (yX4_knownToAll, cX4_knownToAll, 3, (some .int))
set_option maxRecDepth 20000 in
theorem mk_X4_knownToAll : zMok m_X4_knownToAll 0 := ⟨gt_t4 189 rfl rfl, rfl, by decide, by decide, by decide +kernel, by decide, gt_t1 13 (by decide +kernel) rfl⟩
def m_X4_dayOf : zMI := (yX4_dayOf, cX4_dayOf, 2, (some .int))
set_option maxRecDepth 20000 in
theorem mk_X4_dayOf : zMok m_X4_dayOf 1 := ⟨gt_t4 165 rfl rfl, rfl, by decide, by decide, by decide +kernel, by decide, gt_t1 13 (by decide +kernel) rfl⟩
def m_X4_isLate : zMI := (yX4_isLate, cX4_isLate, 3, (some .boolean))
set_option maxRecDepth 20000 in
theorem mk_X4_isLate : zMok m_X4_isLate 1 := ⟨gt_t4 160 rfl rfl, rfl, by decide, by decide, by decide +kernel, by decide, gt_t1 13 (by decide +kernel) rfl⟩
def m_X4_firstOpenOf : zMI := (yX4_firstOpenOf, cX4_firstOpenOf, 3, (some .int))
set_option maxRecDepth 20000 in
theorem mk_X4_firstOpenOf : zMok m_X4_firstOpenOf 1 := ⟨gt_t5 30 rfl rfl, rfl, by decide, by decide, by decide +kernel, by decide, gt_t1 13 (by decide +kernel) rfl⟩
def m_X4_paidByTelling : zMI := (yX4_paidByTelling, cX4_paidByTelling, 5, (some .int))
set_option maxRecDepth 20000 in
theorem mk_X4_paidByTelling : zMok m_X4_paidByTelling 2 := ⟨gt_t5 43 rfl rfl, rfl, by decide, by decide, by decide +kernel, by decide, gt_t1 13 (by decide +kernel) rfl⟩
def m_X4_sumFor : zMI := (yX4_sumFor, cX4_sumFor, 5, (some .int))
set_option maxRecDepth 20000 in
theorem mk_X4_sumFor : zMok m_X4_sumFor 2 := ⟨gt_t5 224 rfl rfl, rfl, by decide, by decide, by decide +kernel, by decide, gt_t1 13 (by decide +kernel) rfl⟩
def m_X4_hasLate : zMI := (yX4_hasLate, cX4_hasLate, 3, (some .boolean))
set_option maxRecDepth 20000 in
theorem mk_X4_hasLate : zMok m_X4_hasLate 1 := ⟨gt_t5 220 rfl rfl, rfl, by decide, by decide, by decide +kernel, by decide, gt_t1 13 (by decide +kernel) rfl⟩
def m_X4_owedInAll : zMI := (yX4_owedInAll, cX4_owedInAll, 1, (some .int))
set_option maxRecDepth 20000 in
theorem mk_X4_owedInAll : zMok m_X4_owedInAll 0 := ⟨gt_t5 79 rfl rfl, rfl, by decide, by decide, by decide +kernel, by decide, gt_t1 13 (by decide +kernel) rfl⟩
def m_X4_sumInAll : zMI := (yX4_sumInAll, cX4_sumInAll, 4, (some .int))
set_option maxRecDepth 20000 in
theorem mk_X4_sumInAll : zMok m_X4_sumInAll 1 := ⟨gt_t4 156 rfl rfl, rfl, by decide, by decide, by decide +kernel, by decide, gt_t1 13 (by decide +kernel) rfl⟩
def m_X4_hurtInAll : zMI := (yX4_hurtInAll, cX4_hurtInAll, 3, (some .int))
set_option maxRecDepth 20000 in
theorem mk_X4_hurtInAll : zMok m_X4_hurtInAll 0 := ⟨gt_t4 169 rfl rfl, rfl, by decide, by decide, by decide +kernel, by decide, gt_t1 13 (by decide +kernel) rfl⟩
def m_X4_howManyWrong : zMI := (yX4_howManyWrong, cX4_howManyWrong, 3, (some .int))
set_option maxRecDepth 20000 in
theorem mk_X4_howManyWrong : zMok m_X4_howManyWrong 0 := ⟨gt_t4 173 rfl rfl, rfl, by decide, by decide, by decide +kernel, by decide, gt_t1 13 (by decide +kernel) rfl⟩
def m_X4_isOpenAbout : zMI := (yX4_isOpenAbout, cX4_isOpenAbout, 4, (some .boolean))
set_option maxRecDepth 20000 in
theorem mk_X4_isOpenAbout : zMok m_X4_isOpenAbout 3 := ⟨gt_t5 106 rfl rfl, rfl, by decide, by decide, by decide +kernel, by decide, gt_t1 13 (by decide +kernel) rfl⟩
def m_X4_openAbout : zMI := (yX4_openAbout, cX4_openAbout, 5, (some .int))
set_option maxRecDepth 20000 in
theorem mk_X4_openAbout : zMok m_X4_openAbout 2 := ⟨gt_t5 102 rfl rfl, rfl, by decide, by decide, by decide +kernel, by decide, gt_t1 13 (by decide +kernel) rfl⟩
def m_X4_growthAbout : zMI := (yX4_growthAbout, cX4_growthAbout, 5, (some .int))
set_option maxRecDepth 20000 in
theorem mk_X4_growthAbout : zMok m_X4_growthAbout 2 := ⟨gt_t5 111 rfl rfl, rfl, by decide, by decide, by decide +kernel, by decide, gt_t1 13 (by decide +kernel) rfl⟩
def m_X4_priceFor : zMI := (yX4_priceFor, cX4_priceFor, 6, (some .int))
set_option maxRecDepth 20000 in
theorem mk_X4_priceFor : zMok m_X4_priceFor 2 := ⟨gt_t5 5 rfl rfl, rfl, by decide, by decide, by decide +kernel, by decide, gt_t1 13 (by decide +kernel) rfl⟩
def m_X5_init : zMI := (yX5_init, cX5_init, 6, none)
set_option maxRecDepth 20000 in
theorem mk_X5_init : zMok m_X5_init 1 := ⟨gt_t1 58 rfl rfl, rfl, by decide, by decide, by decide +kernel, by decide, gt_t1 3 (by decide +kernel) rfl⟩
def m_X5_open : zMI := (yX5_open, cX5_open, 2, none)
set_option maxRecDepth 20000 in
theorem mk_X5_open : zMok m_X5_open 1 := ⟨gt_t3 101 rfl rfl, rfl, by decide, by decide, by decide +kernel, by decide, gt_t1 3 (by decide +kernel) rfl⟩
def m_X5_step : zMI := (yX5_step, cX5_step, 1, none)
set_option maxRecDepth 20000 in
theorem mk_X5_step : zMok m_X5_step 0 := ⟨gt_t3 116 rfl rfl, rfl, by decide, by decide, by decide +kernel, by decide, gt_t1 3 (by decide +kernel) rfl⟩
def m_X5_takeRun : zMI := (yX5_takeRun, cX5_takeRun, 6, (some .boolean))
set_option maxRecDepth 20000 in
theorem mk_X5_takeRun : zMok m_X5_takeRun 0 := ⟨gt_t3 120 rfl rfl, rfl, by decide, by decide, by decide +kernel, by decide, gt_t1 3 (by decide +kernel) rfl⟩
def m_X5_refuse : zMI := (yX5_refuse, cX5_refuse, 2, (some .boolean))
set_option maxRecDepth 20000 in
theorem mk_X5_refuse : zMok m_X5_refuse 1 := ⟨gt_t3 139 rfl rfl, rfl, by decide, by decide, by decide +kernel, by decide, gt_t1 3 (by decide +kernel) rfl⟩
def m_X5_isSign : zMI := (yX5_isSign, cX5_isSign, 2, (some .boolean))
set_option maxRecDepth 20000 in
theorem mk_X5_isSign : zMok m_X5_isSign 1 := ⟨gt_t3 157 rfl rfl, rfl, by decide, by decide, by decide +kernel, by decide, gt_t1 3 (by decide +kernel) rfl⟩
def m_X5_keyword : zMI := (yX5_keyword, cX5_keyword, 1, (some .int))
set_option maxRecDepth 20000 in
theorem mk_X5_keyword : zMok m_X5_keyword 0 := ⟨gt_t3 128 rfl rfl, rfl, by decide, by decide, by decide +kernel, by decide, gt_t1 3 (by decide +kernel) rfl⟩
def m_X5_isName : zMI := (yX5_isName, cX5_isName, 1, (some .boolean))
set_option maxRecDepth 20000 in
theorem mk_X5_isName : zMok m_X5_isName 0 := ⟨gt_t3 147 rfl rfl, rfl, by decide, by decide, by decide +kernel, by decide, gt_t1 3 (by decide +kernel) rfl⟩
def m_X5_stepSign : zMI := (yX5_stepSign, cX5_stepSign, 2, (some .boolean))
set_option maxRecDepth 20000 in
theorem mk_X5_stepSign : zMok m_X5_stepSign 1 := ⟨gt_t3 152 rfl rfl, rfl, by decide, by decide, by decide +kernel, by decide, gt_t1 3 (by decide +kernel) rfl⟩
def m_X5_stepNumber : zMI := (yX5_stepNumber, cX5_stepNumber, 3, (some .int))
set_option maxRecDepth 20000 in
theorem mk_X5_stepNumber : zMok m_X5_stepNumber 2 := ⟨gt_t3 166 rfl rfl, rfl, by decide, by decide, by decide +kernel, by decide, gt_t1 3 (by decide +kernel) rfl⟩
def m_X5_stepName : zMI := (yX5_stepName, cX5_stepName, 4, (some .int))
set_option maxRecDepth 20000 in
theorem mk_X5_stepName : zMok m_X5_stepName 2 := ⟨gt_t3 170 rfl rfl, rfl, by decide, by decide, by decide +kernel, by decide, gt_t1 3 (by decide +kernel) rfl⟩
def m_X6_init : zMI := (yX6_init, cX6_init, 1, none)
set_option maxRecDepth 20000 in
theorem mk_X6_init : zMok m_X6_init 0 := ⟨gt_t2 40 rfl rfl, rfl, by decide, by decide, by decide +kernel, by decide, gt_t1 12 (by decide +kernel) rfl⟩
def m_X6_clear : zMI := (yX6_clear, cX6_clear, 1, none)
set_option maxRecDepth 20000 in
theorem mk_X6_clear : zMok m_X6_clear 0 := ⟨gt_t3 214 rfl rfl, rfl, by decide, by decide, by decide +kernel, by decide, gt_t1 12 (by decide +kernel) rfl⟩
def m_X6_copy : zMI := (yX6_copy, cX6_copy, 2, none)
set_option maxRecDepth 20000 in
theorem mk_X6_copy : zMok m_X6_copy 1 := ⟨gt_t5 198 rfl rfl, rfl, by decide, by decide, by decide +kernel, by decide, gt_t1 12 (by decide +kernel) rfl⟩
def m_X6_take : zMI := (yX6_take, cX6_take, 3, (some .boolean))
set_option maxRecDepth 20000 in
theorem mk_X6_take : zMok m_X6_take 2 := ⟨gt_t5 167 rfl rfl, rfl, by decide, by decide, by decide +kernel, by decide, gt_t1 12 (by decide +kernel) rfl⟩
def m_X6_takeCond : zMI := (yX6_takeCond, cX6_takeCond, 5, (some .boolean))
set_option maxRecDepth 20000 in
theorem mk_X6_takeCond : zMok m_X6_takeCond 3 := ⟨gt_t5 173 rfl rfl, rfl, by decide, by decide, by decide +kernel, by decide, gt_t1 12 (by decide +kernel) rfl⟩
def m_X6_takeAll : zMI := (yX6_takeAll, cX6_takeAll, 5, (some .boolean))
set_option maxRecDepth 20000 in
theorem mk_X6_takeAll : zMok m_X6_takeAll 3 := ⟨gt_t5 177 rfl rfl, rfl, by decide, by decide, by decide +kernel, by decide, gt_t1 12 (by decide +kernel) rfl⟩
def m_X6_takeOne : zMI := (yX6_takeOne, cX6_takeOne, 6, (some .boolean))
set_option maxRecDepth 20000 in
theorem mk_X6_takeOne : zMok m_X6_takeOne 3 := ⟨gt_t5 181 rfl rfl, rfl, by decide, by decide, by decide +kernel, by decide, gt_t1 12 (by decide +kernel) rfl⟩
def m_X6_takePlain : zMI := (yX6_takePlain, cX6_takePlain, 6, (some .boolean))
set_option maxRecDepth 20000 in
theorem mk_X6_takePlain : zMok m_X6_takePlain 3 := ⟨gt_t5 188 rfl rfl, rfl, by decide, by decide, by decide +kernel, by decide, gt_t1 12 (by decide +kernel) rfl⟩
def m_X6_addStep : zMI := (yX6_addStep, cX6_addStep, 4, none)
set_option maxRecDepth 20000 in
theorem mk_X6_addStep : zMok m_X6_addStep 3 := ⟨gt_t5 194 rfl rfl, rfl, by decide, by decide, by decide +kernel, by decide, gt_t1 12 (by decide +kernel) rfl⟩
def m_X6_holdsFor : zMI := (yX6_holdsFor, cX6_holdsFor, 6, (some .int))
set_option maxRecDepth 20000 in
theorem mk_X6_holdsFor : zMok m_X6_holdsFor 1 := ⟨gt_t5 207 rfl rfl, rfl, by decide, by decide, by decide +kernel, by decide, gt_t1 12 (by decide +kernel) rfl⟩
def m_X6_plainFor : zMI := (yX6_plainFor, cX6_plainFor, 5, (some .int))
set_option maxRecDepth 20000 in
theorem mk_X6_plainFor : zMok m_X6_plainFor 2 := ⟨gt_t5 211 rfl rfl, rfl, by decide, by decide, by decide +kernel, by decide, gt_t1 12 (by decide +kernel) rfl⟩
def m_X6_isPlainOf : zMI := (yX6_isPlainOf, cX6_isPlainOf, 5, (some .boolean))
set_option maxRecDepth 20000 in
theorem mk_X6_isPlainOf : zMok m_X6_isPlainOf 3 := ⟨gt_t5 215 rfl rfl, rfl, by decide, by decide, by decide +kernel, by decide, gt_t1 12 (by decide +kernel) rfl⟩
def m_X7_init : zMI := (yX7_init, cX7_init, 1, none)
set_option maxRecDepth 20000 in
theorem mk_X7_init : zMok m_X7_init 0 := ⟨gt_t1 38 rfl rfl, rfl, by decide, by decide, by decide +kernel, by decide, gt_t1 2 (by decide +kernel) rfl⟩
def m_X7_put : zMI := (yX7_put, cX7_put, 3, none)
set_option maxRecDepth 20000 in
theorem mk_X7_put : zMok m_X7_put 1 := ⟨gt_t3 89 rfl rfl, rfl, by decide, by decide, by decide +kernel, by decide, gt_t1 2 (by decide +kernel) rfl⟩
def m_X8_init : zMI := (yX8_init, cX8_init, 1, none)
set_option maxRecDepth 20000 in
theorem mk_X8_init : zMok m_X8_init 0 := ⟨gt_t2 203 rfl rfl, rfl, by decide, by decide, by decide +kernel, by decide, gt_t1 16 (by decide +kernel) rfl⟩
def m_X8_take : zMI := (yX8_take, cX8_take, 5, (some .boolean))
set_option maxRecDepth 20000 in
theorem mk_X8_take : zMok m_X8_take 2 := ⟨gt_t5 51 rfl rfl, rfl, by decide, by decide, by decide +kernel, by decide, gt_t1 16 (by decide +kernel) rfl⟩
def m_X8_settle : zMI := (yX8_settle, cX8_settle, 9, (some .int))
set_option maxRecDepth 20000 in
theorem mk_X8_settle : zMok m_X8_settle 2 := ⟨gt_t5 57 rfl rfl, rfl, by decide, by decide, by decide +kernel, by decide, gt_t1 16 (by decide +kernel) rfl⟩
def m_X8_tryTurns : zMI := (yX8_tryTurns, cX8_tryTurns, 5, (some .int))
set_option maxRecDepth 20000 in
theorem mk_X8_tryTurns : zMok m_X8_tryTurns 1 := ⟨gt_t5 71 rfl rfl, rfl, by decide, by decide, by decide +kernel, by decide, gt_t1 16 (by decide +kernel) rfl⟩
def m_X8_nextTurns : zMI := (yX8_nextTurns, cX8_nextTurns, 5, (some .boolean))
set_option maxRecDepth 20000 in
theorem mk_X8_nextTurns : zMok m_X8_nextTurns 0 := ⟨gt_t5 85 rfl rfl, rfl, by decide, by decide, by decide +kernel, by decide, gt_t1 16 (by decide +kernel) rfl⟩
def m_X8_swap : zMI := (yX8_swap, cX8_swap, 4, none)
set_option maxRecDepth 20000 in
theorem mk_X8_swap : zMok m_X8_swap 2 := ⟨gt_t5 89 rfl rfl, rfl, by decide, by decide, by decide +kernel, by decide, gt_t1 16 (by decide +kernel) rfl⟩
def m_X9_init : zMI := (yX9_init, cX9_init, 1, none)
set_option maxRecDepth 20000 in
theorem mk_X9_init : zMok m_X9_init 0 := ⟨gt_t1 147 rfl rfl, rfl, by decide, by decide, by decide +kernel, by decide, gt_t1 8 (by decide +kernel) rfl⟩
def m_X9_clear : zMI := (yX9_clear, cX9_clear, 1, none)
set_option maxRecDepth 20000 in
theorem mk_X9_clear : zMok m_X9_clear 0 := ⟨gt_t3 112 rfl rfl, rfl, by decide, by decide, by decide +kernel, by decide, gt_t1 8 (by decide +kernel) rfl⟩
def m_X9_copy : zMI := (yX9_copy, cX9_copy, 2, none)
set_option maxRecDepth 20000 in
theorem mk_X9_copy : zMok m_X9_copy 1 := ⟨gt_t3 206 rfl rfl, rfl, by decide, by decide, by decide +kernel, by decide, gt_t1 8 (by decide +kernel) rfl⟩
def m_X9_hasWho : zMI := (yX9_hasWho, cX9_hasWho, 2, (some .boolean))
set_option maxRecDepth 20000 in
theorem mk_X9_hasWho : zMok m_X9_hasWho 1 := ⟨gt_t4 64 rfl rfl, rfl, by decide, by decide, by decide +kernel, by decide, gt_t1 8 (by decide +kernel) rfl⟩
def m_X9_hasFact : zMI := (yX9_hasFact, cX9_hasFact, 2, (some .boolean))
set_option maxRecDepth 20000 in
theorem mk_X9_hasFact : zMok m_X9_hasFact 1 := ⟨gt_t4 146 rfl rfl, rfl, by decide, by decide, by decide +kernel, by decide, gt_t1 8 (by decide +kernel) rfl⟩
def m_X9_follow : zMI := (yX9_follow, cX9_follow, 6, (some .int))
set_option maxRecDepth 20000 in
theorem mk_X9_follow : zMok m_X9_follow 1 := ⟨gt_t3 230 rfl rfl, rfl, by decide, by decide, by decide +kernel, by decide, gt_t1 8 (by decide +kernel) rfl⟩
def m_X9_take : zMI := (yX9_take, cX9_take, 3, (some .int))
set_option maxRecDepth 20000 in
theorem mk_X9_take : zMok m_X9_take 1 := ⟨gt_t3 108 rfl rfl, rfl, by decide, by decide, by decide +kernel, by decide, gt_t1 8 (by decide +kernel) rfl⟩
def m_X9_takeLine : zMI := (yX9_takeLine, cX9_takeLine, 3, (some .boolean))
set_option maxRecDepth 20000 in
theorem mk_X9_takeLine : zMok m_X9_takeLine 1 := ⟨gt_t3 124 rfl rfl, rfl, by decide, by decide, by decide +kernel, by decide, gt_t1 8 (by decide +kernel) rfl⟩
def m_X9_takeNewName : zMI := (yX9_takeNewName, cX9_takeNewName, 4, (some .boolean))
set_option maxRecDepth 20000 in
theorem mk_X9_takeNewName : zMok m_X9_takeNewName 1 := ⟨gt_t3 143 rfl rfl, rfl, by decide, by decide, by decide +kernel, by decide, gt_t1 8 (by decide +kernel) rfl⟩
def m_X9_takeWho : zMI := (yX9_takeWho, cX9_takeWho, 2, (some .boolean))
set_option maxRecDepth 20000 in
theorem mk_X9_takeWho : zMok m_X9_takeWho 1 := ⟨gt_t3 135 rfl rfl, rfl, by decide, by decide, by decide +kernel, by decide, gt_t1 8 (by decide +kernel) rfl⟩
def m_X9_takeFact : zMI := (yX9_takeFact, cX9_takeFact, 6, (some .boolean))
set_option maxRecDepth 20000 in
theorem mk_X9_takeFact : zMok m_X9_takeFact 1 := ⟨gt_t3 162 rfl rfl, rfl, by decide, by decide, by decide +kernel, by decide, gt_t1 8 (by decide +kernel) rfl⟩
def m_X9_takeKnows : zMI := (yX9_takeKnows, cX9_takeKnows, 4, (some .boolean))
set_option maxRecDepth 20000 in
theorem mk_X9_takeKnows : zMok m_X9_takeKnows 1 := ⟨gt_t3 175 rfl rfl, rfl, by decide, by decide, by decide +kernel, by decide, gt_t1 8 (by decide +kernel) rfl⟩
def m_X9_takeSince : zMI := (yX9_takeSince, cX9_takeSince, 6, (some .boolean))
set_option maxRecDepth 20000 in
theorem mk_X9_takeSince : zMok m_X9_takeSince 1 := ⟨gt_t3 182 rfl rfl, rfl, by decide, by decide, by decide +kernel, by decide, gt_t1 8 (by decide +kernel) rfl⟩
def m_X9_takeAsks : zMI := (yX9_takeAsks, cX9_takeAsks, 6, (some .boolean))
set_option maxRecDepth 20000 in
theorem mk_X9_takeAsks : zMok m_X9_takeAsks 1 := ⟨gt_t3 186 rfl rfl, rfl, by decide, by decide, by decide +kernel, by decide, gt_t1 8 (by decide +kernel) rfl⟩
def m_X9_takeSetting : zMI := (yX9_takeSetting, cX9_takeSetting, 4, (some .boolean))
set_option maxRecDepth 20000 in
theorem mk_X9_takeSetting : zMok m_X9_takeSetting 2 := ⟨gt_t3 190 rfl rfl, rfl, by decide, by decide, by decide +kernel, by decide, gt_t1 8 (by decide +kernel) rfl⟩
def m_X10_init : zMI := (yX10_init, cX10_init, 1, none)
set_option maxRecDepth 20000 in
theorem mk_X10_init : zMok m_X10_init 0 := ⟨gt_t2 181 rfl rfl, rfl, by decide, by decide, by decide +kernel, by decide, gt_t1 15 (by decide +kernel) rfl⟩
def m_X10_coinsFor : zMI := (yX10_coinsFor, cX10_coinsFor, 1, (some .int))
set_option maxRecDepth 20000 in
theorem mk_X10_coinsFor : zMok m_X10_coinsFor 1 := ⟨gt_t5 22 rfl rfl, rfl, by decide, by decide, by decide +kernel, by decide, gt_t1 15 (by decide +kernel) rfl⟩
def m_X10_factsIn : zMI := (yX10_factsIn, cX10_factsIn, 1, (some .int))
set_option maxRecDepth 20000 in
theorem mk_X10_factsIn : zMok m_X10_factsIn 1 := ⟨gt_t5 12 rfl rfl, rfl, by decide, by decide, by decide +kernel, by decide, gt_t1 15 (by decide +kernel) rfl⟩
def m_X10_bitsOf : zMI := (yX10_bitsOf, cX10_bitsOf, 1, (some .int))
set_option maxRecDepth 20000 in
theorem mk_X10_bitsOf : zMok m_X10_bitsOf 1 := ⟨gt_t5 15 rfl rfl, rfl, by decide, by decide, by decide +kernel, by decide, gt_t1 15 (by decide +kernel) rfl⟩
def m_X10_leastFor : zMI := (yX10_leastFor, cX10_leastFor, 9, (some .int))
set_option maxRecDepth 20000 in
theorem mk_X10_leastFor : zMok m_X10_leastFor 3 := ⟨gt_t4 230 rfl rfl, rfl, by decide, by decide, by decide +kernel, by decide, gt_t1 15 (by decide +kernel) rfl⟩
def m_X10_takeDues : zMI := (yX10_takeDues, cX10_takeDues, 6, (some .int))
set_option maxRecDepth 20000 in
theorem mk_X10_takeDues : zMok m_X10_takeDues 2 := ⟨gt_t4 234 rfl rfl, rfl, by decide, by decide, by decide +kernel, by decide, gt_t1 15 (by decide +kernel) rfl⟩
def m_X10_takeFact : zMI := (yX10_takeFact, cX10_takeFact, 6, none)
set_option maxRecDepth 20000 in
theorem mk_X10_takeFact : zMok m_X10_takeFact 4 := ⟨gt_t4 239 rfl rfl, rfl, by decide, by decide, by decide +kernel, by decide, gt_t1 15 (by decide +kernel) rfl⟩
def m_X11_init : zMI := (yX11_init, cX11_init, 1, none)
set_option maxRecDepth 20000 in
theorem mk_X11_init : zMok m_X11_init 0 := ⟨gt_t1 30 rfl rfl, rfl, by decide, by decide, by decide +kernel, by decide, gt_t1 1 (by decide +kernel) rfl⟩
def m_X11_feed : zMI := (yX11_feed, cX11_feed, 6, (some .int))
set_option maxRecDepth 20000 in
theorem mk_X11_feed : zMok m_X11_feed 5 := ⟨gt_t3 85 rfl rfl, rfl, by decide, by decide, by decide +kernel, by decide, gt_t1 1 (by decide +kernel) rfl⟩
def m_X11_end : zMI := (yX11_end, cX11_end, 2, (some .boolean))
set_option maxRecDepth 20000 in
theorem mk_X11_end : zMok m_X11_end 1 := ⟨gt_t3 93 rfl rfl, rfl, by decide, by decide, by decide +kernel, by decide, gt_t1 1 (by decide +kernel) rfl⟩
def m_X11_valley : zMI := (yX11_valley, cX11_valley, 2, (some .int))
set_option maxRecDepth 20000 in
theorem mk_X11_valley : zMok m_X11_valley 0 := ⟨gt_t3 97 rfl rfl, rfl, by decide, by decide, by decide +kernel, by decide, gt_t1 1 (by decide +kernel) rfl⟩
def m_X11_fault : zMI := (yX11_fault, cX11_fault, 1, (some .int))
set_option maxRecDepth 20000 in
theorem mk_X11_fault : zMok m_X11_fault 0 := ⟨gt_t4 56 rfl rfl, rfl, by decide, by decide, by decide +kernel, by decide, gt_t1 1 (by decide +kernel) rfl⟩
def m_X11_fact : zMI := (yX11_fact, cX11_fact, 3, (some .int))
set_option maxRecDepth 20000 in
theorem mk_X11_fact : zMok m_X11_fact 2 := ⟨gt_t6 11 rfl rfl, rfl, by decide, by decide, by decide +kernel, by decide, gt_t1 1 (by decide +kernel) rfl⟩
def m_X11_knows : zMI := (yX11_knows, cX11_knows, 3, (some .int))
set_option maxRecDepth 20000 in
theorem mk_X11_knows : zMok m_X11_knows 2 := ⟨gt_t4 60 rfl rfl, rfl, by decide, by decide, by decide +kernel, by decide, gt_t1 1 (by decide +kernel) rfl⟩
def m_X11_book : zMI := (yX11_book, cX11_book, 2, (some .int))
set_option maxRecDepth 20000 in
theorem mk_X11_book : zMok m_X11_book 0 := ⟨gt_t4 69 rfl rfl, rfl, by decide, by decide, by decide +kernel, by decide, gt_t1 1 (by decide +kernel) rfl⟩
def m_X11_drawn : zMI := (yX11_drawn, cX11_drawn, 3, (some .int))
set_option maxRecDepth 20000 in
theorem mk_X11_drawn : zMok m_X11_drawn 2 := ⟨gt_t4 117 rfl rfl, rfl, by decide, by decide, by decide +kernel, by decide, gt_t1 1 (by decide +kernel) rfl⟩
def m_X11_line : zMI := (yX11_line, cX11_line, 3, (some .int))
set_option maxRecDepth 20000 in
theorem mk_X11_line : zMok m_X11_line 2 := ⟨gt_t6 79 rfl rfl, rfl, by decide, by decide, by decide +kernel, by decide, gt_t1 1 (by decide +kernel) rfl⟩
def m_X11_wrong : zMI := (yX11_wrong, cX11_wrong, 2, (some .int))
set_option maxRecDepth 20000 in
theorem mk_X11_wrong : zMok m_X11_wrong 1 := ⟨gt_t4 130 rfl rfl, rfl, by decide, by decide, by decide +kernel, by decide, gt_t1 1 (by decide +kernel) rfl⟩
def m_X11_debts : zMI := (yX11_debts, cX11_debts, 1, (some .int))
set_option maxRecDepth 20000 in
theorem mk_X11_debts : zMok m_X11_debts 0 := ⟨gt_t4 138 rfl rfl, rfl, by decide, by decide, by decide +kernel, by decide, gt_t1 1 (by decide +kernel) rfl⟩
def m_X11_debt : zMI := (yX11_debt, cX11_debt, 3, (some .int))
set_option maxRecDepth 20000 in
theorem mk_X11_debt : zMok m_X11_debt 2 := ⟨gt_t6 86 rfl rfl, rfl, by decide, by decide, by decide +kernel, by decide, gt_t1 1 (by decide +kernel) rfl⟩
def m_X11_worth : zMI := (yX11_worth, cX11_worth, 3, (some .int))
set_option maxRecDepth 20000 in
theorem mk_X11_worth : zMok m_X11_worth 2 := ⟨gt_t4 142 rfl rfl, rfl, by decide, by decide, by decide +kernel, by decide, gt_t1 1 (by decide +kernel) rfl⟩
def m_X11_came : zMI := (yX11_came, cX11_came, 3, (some .int))
set_option maxRecDepth 20000 in
theorem mk_X11_came : zMok m_X11_came 2 := ⟨gt_t6 98 rfl rfl, rfl, by decide, by decide, by decide +kernel, by decide, gt_t1 1 (by decide +kernel) rfl⟩
def m_X11_autumn : zMI := (yX11_autumn, cX11_autumn, 2, (some .int))
set_option maxRecDepth 20000 in
theorem mk_X11_autumn : zMok m_X11_autumn 1 := ⟨gt_t4 152 rfl rfl, rfl, by decide, by decide, by decide +kernel, by decide, gt_t1 1 (by decide +kernel) rfl⟩
def m_X11_feast : zMI := (yX11_feast, cX11_feast, 2, (some .int))
set_option maxRecDepth 20000 in
theorem mk_X11_feast : zMok m_X11_feast 1 := ⟨gt_t4 177 rfl rfl, rfl, by decide, by decide, by decide +kernel, by decide, gt_t1 1 (by decide +kernel) rfl⟩
def m_X11_feastAt : zMI := (yX11_feastAt, cX11_feastAt, 2, (some .int))
set_option maxRecDepth 20000 in
theorem mk_X11_feastAt : zMok m_X11_feastAt 1 := ⟨gt_t4 222 rfl rfl, rfl, by decide, by decide, by decide +kernel, by decide, gt_t1 1 (by decide +kernel) rfl⟩
def m_X11_needs : zMI := (yX11_needs, cX11_needs, 4, (some .int))
set_option maxRecDepth 20000 in
theorem mk_X11_needs : zMok m_X11_needs 2 := ⟨gt_t4 226 rfl rfl, rfl, by decide, by decide, by decide +kernel, by decide, gt_t1 1 (by decide +kernel) rfl⟩
def m_X11_buys : zMI := (yX11_buys, cX11_buys, 4, (some .int))
set_option maxRecDepth 20000 in
theorem mk_X11_buys : zMok m_X11_buys 2 := ⟨gt_t5 19 rfl rfl, rfl, by decide, by decide, by decide +kernel, by decide, gt_t1 1 (by decide +kernel) rfl⟩
def m_X11_terms : zMI := (yX11_terms, cX11_terms, 3, (some .int))
set_option maxRecDepth 20000 in
theorem mk_X11_terms : zMok m_X11_terms 1 := ⟨gt_t5 26 rfl rfl, rfl, by decide, by decide, by decide +kernel, by decide, gt_t1 1 (by decide +kernel) rfl⟩
def m_X11_source : zMI := (yX11_source, cX11_source, 3, (some .int))
set_option maxRecDepth 20000 in
theorem mk_X11_source : zMok m_X11_source 2 := ⟨gt_t5 35 rfl rfl, rfl, by decide, by decide, by decide +kernel, by decide, gt_t1 1 (by decide +kernel) rfl⟩
def m_X11_led : zMI := (yX11_led, cX11_led, 3, (some .int))
set_option maxRecDepth 20000 in
theorem mk_X11_led : zMok m_X11_led 2 := ⟨gt_t5 39 rfl rfl, rfl, by decide, by decide, by decide +kernel, by decide, gt_t1 1 (by decide +kernel) rfl⟩
def m_X11_order : zMI := (yX11_order, cX11_order, 2, (some .int))
set_option maxRecDepth 20000 in
theorem mk_X11_order : zMok m_X11_order 0 := ⟨gt_t5 47 rfl rfl, rfl, by decide, by decide, by decide +kernel, by decide, gt_t1 1 (by decide +kernel) rfl⟩
def m_X11_orderAt : zMI := (yX11_orderAt, cX11_orderAt, 2, (some .int))
set_option maxRecDepth 20000 in
theorem mk_X11_orderAt : zMok m_X11_orderAt 1 := ⟨gt_t5 93 rfl rfl, rfl, by decide, by decide, by decide +kernel, by decide, gt_t1 1 (by decide +kernel) rfl⟩
def m_X11_ripple : zMI := (yX11_ripple, cX11_ripple, 6, (some .int))
set_option maxRecDepth 20000 in
theorem mk_X11_ripple : zMok m_X11_ripple 4 := ⟨gt_t5 97 rfl rfl, rfl, by decide, by decide, by decide +kernel, by decide, gt_t1 1 (by decide +kernel) rfl⟩
def m_X11_unsaid : zMI := (yX11_unsaid, cX11_unsaid, 2, (some .int))
set_option maxRecDepth 20000 in
theorem mk_X11_unsaid : zMok m_X11_unsaid 1 := ⟨gt_t5 115 rfl rfl, rfl, by decide, by decide, by decide +kernel, by decide, gt_t1 1 (by decide +kernel) rfl⟩
def m_X11_cord : zMI := (yX11_cord, cX11_cord, 3, (some .int))
set_option maxRecDepth 20000 in
theorem mk_X11_cord : zMok m_X11_cord 2 := ⟨gt_t5 119 rfl rfl, rfl, by decide, by decide, by decide +kernel, by decide, gt_t1 1 (by decide +kernel) rfl⟩
def m_X11_read : zMI := (yX11_read, cX11_read, 1, (some .int))
set_option maxRecDepth 20000 in
theorem mk_X11_read : zMok m_X11_read 0 := ⟨gt_t5 129 rfl rfl, rfl, by decide, by decide, by decide +kernel, by decide, gt_t1 1 (by decide +kernel) rfl⟩
def m_X11_near : zMI := (yX11_near, cX11_near, 4, (some .int))
set_option maxRecDepth 20000 in
theorem mk_X11_near : zMok m_X11_near 1 := ⟨gt_t5 140 rfl rfl, rfl, by decide, by decide, by decide +kernel, by decide, gt_t1 1 (by decide +kernel) rfl⟩
def m_X11_measured : zMI := (yX11_measured, cX11_measured, 5, (some .int))
set_option maxRecDepth 20000 in
theorem mk_X11_measured : zMok m_X11_measured 2 := ⟨gt_t5 147 rfl rfl, rfl, by decide, by decide, by decide +kernel, by decide, gt_t1 1 (by decide +kernel) rfl⟩
def m_X11_slips : zMI := (yX11_slips, cX11_slips, 7, (some .int))
set_option maxRecDepth 20000 in
theorem mk_X11_slips : zMok m_X11_slips 3 := ⟨gt_t5 159 rfl rfl, rfl, by decide, by decide, by decide +kernel, by decide, gt_t1 1 (by decide +kernel) rfl⟩
def m_X11_sentence : zMI := (yX11_sentence, cX11_sentence, 2, (some .int))
set_option maxRecDepth 20000 in
theorem mk_X11_sentence : zMok m_X11_sentence 0 := ⟨gt_t5 163 rfl rfl, rfl, by decide, by decide, by decide +kernel, by decide, gt_t1 1 (by decide +kernel) rfl⟩
def m_X11_said : zMI := (yX11_said, cX11_said, 1, (some .int))
set_option maxRecDepth 20000 in
theorem mk_X11_said : zMok m_X11_said 0 := ⟨gt_t5 203 rfl rfl, rfl, by decide, by decide, by decide +kernel, by decide, gt_t1 1 (by decide +kernel) rfl⟩
def m_X11_image : zMI := (yX11_image, cX11_image, 2, (some .boolean))
set_option maxRecDepth 20000 in
theorem mk_X11_image : zMok m_X11_image 1 := ⟨gt_t5 228 rfl rfl, rfl, by decide, by decide, by decide +kernel, by decide, gt_t1 1 (by decide +kernel) rfl⟩
def m_X11_restore : zMI := (yX11_restore, cX11_restore, 2, (some .boolean))
set_option maxRecDepth 20000 in
theorem mk_X11_restore : zMok m_X11_restore 1 := ⟨gt_t5 239 rfl rfl, rfl, by decide, by decide, by decide +kernel, by decide, gt_t1 1 (by decide +kernel) rfl⟩
def m_X11_count : zMI := (yX11_count, cX11_count, 2, (some .int))
set_option maxRecDepth 20000 in
theorem mk_X11_count : zMok m_X11_count 1 := ⟨gt_t6 3 rfl rfl, rfl, by decide, by decide, by decide +kernel, by decide, gt_t1 1 (by decide +kernel) rfl⟩
def m_X11_noteReading : zMI := (yX11_noteReading, cX11_noteReading, 1, none)
set_option maxRecDepth 20000 in
theorem mk_X11_noteReading : zMok m_X11_noteReading 0 := ⟨gt_t3 198 rfl rfl, rfl, by decide, by decide, by decide +kernel, by decide, gt_t1 1 (by decide +kernel) rfl⟩
def m_X11_refusedAt : zMI := (yX11_refusedAt, cX11_refusedAt, 1, (some .int))
set_option maxRecDepth 20000 in
theorem mk_X11_refusedAt : zMok m_X11_refusedAt 0 := ⟨gt_t3 202 rfl rfl, rfl, by decide, by decide, by decide +kernel, by decide, gt_t1 1 (by decide +kernel) rfl⟩
def m_X11_judgeAnew : zMI := (yX11_judgeAnew, cX11_judgeAnew, 1, none)
set_option maxRecDepth 20000 in
theorem mk_X11_judgeAnew : zMok m_X11_judgeAnew 0 := ⟨gt_t3 218 rfl rfl, rfl, by decide, by decide, by decide +kernel, by decide, gt_t1 1 (by decide +kernel) rfl⟩
def m_X11_takeKnots : zMI := (yX11_takeKnots, cX11_takeKnots, 3, (some .boolean))
set_option maxRecDepth 20000 in
theorem mk_X11_takeKnots : zMok m_X11_takeKnots 0 := ⟨gt_t5 133 rfl rfl, rfl, by decide, by decide, by decide +kernel, by decide, gt_t1 1 (by decide +kernel) rfl⟩
def m_X11_isLength : zMI := (yX11_isLength, cX11_isLength, 1, (some .boolean))
set_option maxRecDepth 20000 in
theorem mk_X11_isLength : zMok m_X11_isLength 1 := ⟨gt_t5 122 rfl rfl, rfl, by decide, by decide, by decide +kernel, by decide, gt_t1 1 (by decide +kernel) rfl⟩
def m_X11_knotsAt : zMI := (yX11_knotsAt, cX11_knotsAt, 5, (some .int))
set_option maxRecDepth 20000 in
theorem mk_X11_knotsAt : zMok m_X11_knotsAt 2 := ⟨gt_t5 125 rfl rfl, rfl, by decide, by decide, by decide +kernel, by decide, gt_t1 1 (by decide +kernel) rfl⟩
def m_X11_lengthOf : zMI := (yX11_lengthOf, cX11_lengthOf, 2, (some .int))
set_option maxRecDepth 20000 in
theorem mk_X11_lengthOf : zMok m_X11_lengthOf 1 := ⟨gt_t5 136 rfl rfl, rfl, by decide, by decide, by decide +kernel, by decide, gt_t1 1 (by decide +kernel) rfl⟩
def m_X11_isNear : zMI := (yX11_isNear, cX11_isNear, 5, (some .boolean))
set_option maxRecDepth 20000 in
theorem mk_X11_isNear : zMok m_X11_isNear 2 := ⟨gt_t5 143 rfl rfl, rfl, by decide, by decide, by decide +kernel, by decide, gt_t1 1 (by decide +kernel) rfl⟩
def m_X11_measure : zMI := (yX11_measure, cX11_measure, 6, none)
set_option maxRecDepth 20000 in
theorem mk_X11_measure : zMok m_X11_measure 3 := ⟨gt_t5 150 rfl rfl, rfl, by decide, by decide, by decide +kernel, by decide, gt_t1 1 (by decide +kernel) rfl⟩
def m_X11_cutUp : zMI := (yX11_cutUp, cX11_cutUp, 2, (some .int))
set_option maxRecDepth 20000 in
theorem mk_X11_cutUp : zMok m_X11_cutUp 2 := ⟨gt_t4 16 rfl rfl, rfl, by decide, by decide, by decide +kernel, by decide, gt_t1 1 (by decide +kernel) rfl⟩
def m_X11_hasBit : zMI := (yX11_hasBit, cX11_hasBit, 2, (some .boolean))
set_option maxRecDepth 20000 in
theorem mk_X11_hasBit : zMok m_X11_hasBit 2 := ⟨gt_t3 178 rfl rfl, rfl, by decide, by decide, by decide +kernel, by decide, gt_t1 1 (by decide +kernel) rfl⟩
def m_X11_placeOf : zMI := (yX11_placeOf, cX11_placeOf, 4, (some .int))
set_option maxRecDepth 20000 in
theorem mk_X11_placeOf : zMok m_X11_placeOf 3 := ⟨gt_t3 131 rfl rfl, rfl, by decide, by decide, by decide +kernel, by decide, gt_t1 1 (by decide +kernel) rfl⟩
def m_X12_thrown : zMI := (yX12_thrown, cX12_thrown, 1, (some .int))
set_option maxRecDepth 20000 in
theorem mk_X12_thrown : zMok m_X12_thrown 0 := ⟨gt_t6 103 rfl rfl, rfl, by decide, by decide, by decide +kernel, by decide, gt_t1 19 (by decide +kernel) rfl⟩
def m_X12_throwsIf : zMI := (yX12_throwsIf, cX12_throwsIf, 2, (some .boolean))
set_option maxRecDepth 20000 in
theorem mk_X12_throwsIf : zMok m_X12_throwsIf 1 := ⟨gt_t7 234 rfl rfl, rfl, by decide, by decide, by decide +kernel, by decide, gt_t1 19 (by decide +kernel) rfl⟩
def m_X12_feed : zMI := (yX12_feed, cX12_feed, 6, (some .int))
set_option maxRecDepth 20000 in
theorem mk_X12_feed : zMok m_X12_feed 5 := ⟨gt_t6 107 rfl rfl, rfl, by decide, by decide, by decide +kernel, by decide, gt_t1 19 (by decide +kernel) rfl⟩
def m_X12_four : zMI := (yX12_four, cX12_four, 3, none)
set_option maxRecDepth 20000 in
theorem mk_X12_four : zMok m_X12_four 1 := ⟨gt_t6 112 rfl rfl, rfl, by decide, by decide, by decide +kernel, by decide, gt_t1 19 (by decide +kernel) rfl⟩
def m_X12_end : zMI := (yX12_end, cX12_end, 2, (some .boolean))
set_option maxRecDepth 20000 in
theorem mk_X12_end : zMok m_X12_end 1 := ⟨gt_t6 116 rfl rfl, rfl, by decide, by decide, by decide +kernel, by decide, gt_t1 19 (by decide +kernel) rfl⟩
def m_X12_taken : zMI := (yX12_taken, cX12_taken, 2, none)
set_option maxRecDepth 20000 in
theorem mk_X12_taken : zMok m_X12_taken 1 := ⟨gt_t7 138 rfl rfl, rfl, by decide, by decide, by decide +kernel, by decide, gt_t1 19 (by decide +kernel) rfl⟩
def m_X12_isIn : zMI := (yX12_isIn, cX12_isIn, 3, (some .boolean))
set_option maxRecDepth 20000 in
theorem mk_X12_isIn : zMok m_X12_isIn 3 := ⟨gt_t7 187 rfl rfl, rfl, by decide, by decide, by decide +kernel, by decide, gt_t1 19 (by decide +kernel) rfl⟩
def m_X12_has : zMI := (yX12_has, cX12_has, 2, (some .boolean))
set_option maxRecDepth 20000 in
theorem mk_X12_has : zMok m_X12_has 2 := ⟨gt_t7 198 rfl rfl, rfl, by decide, by decide, by decide +kernel, by decide, gt_t1 19 (by decide +kernel) rfl⟩
def m_X12_many : zMI := (yX12_many, cX12_many, 3, (some .int))
set_option maxRecDepth 20000 in
theorem mk_X12_many : zMok m_X12_many 1 := ⟨gt_t8 9 rfl rfl, rfl, by decide, by decide, by decide +kernel, by decide, gt_t1 19 (by decide +kernel) rfl⟩
def m_X12_up : zMI := (yX12_up, cX12_up, 2, (some .int))
set_option maxRecDepth 20000 in
theorem mk_X12_up : zMok m_X12_up 2 := ⟨gt_t8 65 rfl rfl, rfl, by decide, by decide, by decide +kernel, by decide, gt_t1 19 (by decide +kernel) rfl⟩
def m_X12_octet : zMI := (yX12_octet, cX12_octet, 2, (some .int))
set_option maxRecDepth 20000 in
theorem mk_X12_octet : zMok m_X12_octet 1 := ⟨gt_t8 175 rfl rfl, rfl, by decide, by decide, by decide +kernel, by decide, gt_t1 19 (by decide +kernel) rfl⟩
def m_X12_init : zMI := (yX12_init, cX12_init, 2, none)
set_option maxRecDepth 20000 in
theorem mk_X12_init : zMok m_X12_init 0 := ⟨gt_t6 120 rfl rfl, rfl, by decide, by decide, by decide +kernel, by decide, gt_t1 19 (by decide +kernel) rfl⟩
def m_X12_plainValley : zMI := (yX12_plainValley, cX12_plainValley, 2, none)
set_option maxRecDepth 20000 in
theorem mk_X12_plainValley : zMok m_X12_plainValley 0 := ⟨gt_t6 152 rfl rfl, rfl, by decide, by decide, by decide +kernel, by decide, gt_t1 19 (by decide +kernel) rfl⟩
def m_X12_peek : zMI := (yX12_peek, cX12_peek, 1, (some .int))
set_option maxRecDepth 20000 in
theorem mk_X12_peek : zMok m_X12_peek 0 := ⟨gt_t7 146 rfl rfl, rfl, by decide, by decide, by decide +kernel, by decide, gt_t1 19 (by decide +kernel) rfl⟩
def m_X12_isSmall : zMI := (yX12_isSmall, cX12_isSmall, 1, (some .boolean))
set_option maxRecDepth 20000 in
theorem mk_X12_isSmall : zMok m_X12_isSmall 1 := ⟨gt_t7 149 rfl rfl, rfl, by decide, by decide, by decide +kernel, by decide, gt_t1 19 (by decide +kernel) rfl⟩
def m_X12_isDigit : zMI := (yX12_isDigit, cX12_isDigit, 1, (some .boolean))
set_option maxRecDepth 20000 in
theorem mk_X12_isDigit : zMok m_X12_isDigit 1 := ⟨gt_t7 152 rfl rfl, rfl, by decide, by decide, by decide +kernel, by decide, gt_t1 19 (by decide +kernel) rfl⟩
def m_X12_next : zMI := (yX12_next, cX12_next, 4, none)
set_option maxRecDepth 20000 in
theorem mk_X12_next : zMok m_X12_next 0 := ⟨gt_t7 142 rfl rfl, rfl, by decide, by decide, by decide +kernel, by decide, gt_t1 19 (by decide +kernel) rfl⟩
def m_X12_bad : zMI := (yX12_bad, cX12_bad, 2, (some .boolean))
set_option maxRecDepth 20000 in
theorem mk_X12_bad : zMok m_X12_bad 1 := ⟨gt_t7 164 rfl rfl, rfl, by decide, by decide, by decide +kernel, by decide, gt_t1 19 (by decide +kernel) rfl⟩
def m_X12_isWord : zMI := (yX12_isWord, cX12_isWord, 3, (some .boolean))
set_option maxRecDepth 20000 in
theorem mk_X12_isWord : zMok m_X12_isWord 1 := ⟨gt_t7 160 rfl rfl, rfl, by decide, by decide, by decide +kernel, by decide, gt_t1 19 (by decide +kernel) rfl⟩
def m_X12_isSign : zMI := (yX12_isSign, cX12_isSign, 2, (some .boolean))
set_option maxRecDepth 20000 in
theorem mk_X12_isSign : zMok m_X12_isSign 1 := ⟨gt_t7 218 rfl rfl, rfl, by decide, by decide, by decide +kernel, by decide, gt_t1 19 (by decide +kernel) rfl⟩
def m_X12_sign : zMI := (yX12_sign, cX12_sign, 2, (some .boolean))
set_option maxRecDepth 20000 in
theorem mk_X12_sign : zMok m_X12_sign 1 := ⟨gt_t7 214 rfl rfl, rfl, by decide, by decide, by decide +kernel, by decide, gt_t1 19 (by decide +kernel) rfl⟩
def m_X12_isName : zMI := (yX12_isName, cX12_isName, 3, (some .boolean))
set_option maxRecDepth 20000 in
theorem mk_X12_isName : zMok m_X12_isName 0 := ⟨gt_t7 172 rfl rfl, rfl, by decide, by decide, by decide +kernel, by decide, gt_t1 19 (by decide +kernel) rfl⟩
def m_X12_takes : zMI := (yX12_takes, cX12_takes, 3, (some .boolean))
set_option maxRecDepth 20000 in
theorem mk_X12_takes : zMok m_X12_takes 2 := ⟨gt_t7 184 rfl rfl, rfl, by decide, by decide, by decide +kernel, by decide, gt_t1 19 (by decide +kernel) rfl⟩
def m_X12_find : zMI := (yX12_find, cX12_find, 4, (some .int))
set_option maxRecDepth 20000 in
theorem mk_X12_find : zMok m_X12_find 2 := ⟨gt_t7 176 rfl rfl, rfl, by decide, by decide, by decide +kernel, by decide, gt_t1 19 (by decide +kernel) rfl⟩
def m_X12_takesName : zMI := (yX12_takesName, cX12_takesName, 3, (some .boolean))
set_option maxRecDepth 20000 in
theorem mk_X12_takesName : zMok m_X12_takesName 2 := ⟨gt_t7 191 rfl rfl, rfl, by decide, by decide, by decide +kernel, by decide, gt_t1 19 (by decide +kernel) rfl⟩
def m_X12_fresh : zMI := (yX12_fresh, cX12_fresh, 2, (some .boolean))
set_option maxRecDepth 20000 in
theorem mk_X12_fresh : zMok m_X12_fresh 1 := ⟨gt_t7 168 rfl rfl, rfl, by decide, by decide, by decide +kernel, by decide, gt_t1 19 (by decide +kernel) rfl⟩
def m_X12_once : zMI := (yX12_once, cX12_once, 4, (some .boolean))
set_option maxRecDepth 20000 in
theorem mk_X12_once : zMok m_X12_once 3 := ⟨gt_t7 210 rfl rfl, rfl, by decide, by decide, by decide +kernel, by decide, gt_t1 19 (by decide +kernel) rfl⟩
def m_X12_valleyLine : zMI := (yX12_valleyLine, cX12_valleyLine, 1, (some .boolean))
set_option maxRecDepth 20000 in
theorem mk_X12_valleyLine : zMok m_X12_valleyLine 0 := ⟨gt_t7 156 rfl rfl, rfl, by decide, by decide, by decide +kernel, by decide, gt_t1 19 (by decide +kernel) rfl⟩
def m_X12_readFact : zMI := (yX12_readFact, cX12_readFact, 2, (some .boolean))
set_option maxRecDepth 20000 in
theorem mk_X12_readFact : zMok m_X12_readFact 0 := ⟨gt_t7 180 rfl rfl, rfl, by decide, by decide, by decide +kernel, by decide, gt_t1 19 (by decide +kernel) rfl⟩
def m_X12_readKnows : zMI := (yX12_readKnows, cX12_readKnows, 3, (some .boolean))
set_option maxRecDepth 20000 in
theorem mk_X12_readKnows : zMok m_X12_readKnows 0 := ⟨gt_t7 195 rfl rfl, rfl, by decide, by decide, by decide +kernel, by decide, gt_t1 19 (by decide +kernel) rfl⟩
def m_X12_readSince : zMI := (yX12_readSince, cX12_readSince, 4, (some .boolean))
set_option maxRecDepth 20000 in
theorem mk_X12_readSince : zMok m_X12_readSince 0 := ⟨gt_t7 202 rfl rfl, rfl, by decide, by decide, by decide +kernel, by decide, gt_t1 19 (by decide +kernel) rfl⟩
def m_X12_readAsks : zMI := (yX12_readAsks, cX12_readAsks, 3, (some .boolean))
set_option maxRecDepth 20000 in
theorem mk_X12_readAsks : zMok m_X12_readAsks 0 := ⟨gt_t7 206 rfl rfl, rfl, by decide, by decide, by decide +kernel, by decide, gt_t1 19 (by decide +kernel) rfl⟩
def m_X12_valley : zMI := (yX12_valley, cX12_valley, 2, (some .int))
set_option maxRecDepth 20000 in
theorem mk_X12_valley : zMok m_X12_valley 0 := ⟨gt_t7 134 rfl rfl, rfl, by decide, by decide, by decide +kernel, by decide, gt_t1 19 (by decide +kernel) rfl⟩
def m_X12_fault : zMI := (yX12_fault, cX12_fault, 1, (some .int))
set_option maxRecDepth 20000 in
theorem mk_X12_fault : zMok m_X12_fault 0 := ⟨gt_t7 222 rfl rfl, rfl, by decide, by decide, by decide +kernel, by decide, gt_t1 19 (by decide +kernel) rfl⟩
def m_X12_isWho : zMI := (yX12_isWho, cX12_isWho, 2, (some .boolean))
set_option maxRecDepth 20000 in
theorem mk_X12_isWho : zMok m_X12_isWho 1 := ⟨gt_t8 38 rfl rfl, rfl, by decide, by decide, by decide +kernel, by decide, gt_t1 19 (by decide +kernel) rfl⟩
def m_X12_isFact : zMI := (yX12_isFact, cX12_isFact, 2, (some .boolean))
set_option maxRecDepth 20000 in
theorem mk_X12_isFact : zMok m_X12_isFact 1 := ⟨gt_t7 230 rfl rfl, rfl, by decide, by decide, by decide +kernel, by decide, gt_t1 19 (by decide +kernel) rfl⟩
def m_X12_fact : zMI := (yX12_fact, cX12_fact, 3, (some .int))
set_option maxRecDepth 20000 in
theorem mk_X12_fact : zMok m_X12_fact 2 := ⟨gt_t7 226 rfl rfl, rfl, by decide, by decide, by decide +kernel, by decide, gt_t1 19 (by decide +kernel) rfl⟩
def m_X12_bookLine : zMI := (yX12_bookLine, cX12_bookLine, 8, (some .boolean))
set_option maxRecDepth 20000 in
theorem mk_X12_bookLine : zMok m_X12_bookLine 0 := ⟨gt_t8 2 rfl rfl, rfl, by decide, by decide, by decide +kernel, by decide, gt_t1 19 (by decide +kernel) rfl⟩
def m_X12_put : zMI := (yX12_put, cX12_put, 7, none)
set_option maxRecDepth 20000 in
theorem mk_X12_put : zMok m_X12_put 6 := ⟨gt_t8 6 rfl rfl, rfl, by decide, by decide, by decide +kernel, by decide, gt_t1 19 (by decide +kernel) rfl⟩
def m_X12_withOrder : zMI := (yX12_withOrder, cX12_withOrder, 5, none)
set_option maxRecDepth 20000 in
theorem mk_X12_withOrder : zMok m_X12_withOrder 2 := ⟨gt_t8 13 rfl rfl, rfl, by decide, by decide, by decide +kernel, by decide, gt_t1 19 (by decide +kernel) rfl⟩
def m_X12_keepBook : zMI := (yX12_keepBook, cX12_keepBook, 2, none)
set_option maxRecDepth 20000 in
theorem mk_X12_keepBook : zMok m_X12_keepBook 0 := ⟨gt_t8 17 rfl rfl, rfl, by decide, by decide, by decide +kernel, by decide, gt_t1 19 (by decide +kernel) rfl⟩
def m_X12_book : zMI := (yX12_book, cX12_book, 1, (some .int))
set_option maxRecDepth 20000 in
theorem mk_X12_book : zMok m_X12_book 0 := ⟨gt_t7 238 rfl rfl, rfl, by decide, by decide, by decide +kernel, by decide, gt_t1 19 (by decide +kernel) rfl⟩
def m_X12_draw : zMI := (yX12_draw, cX12_draw, 2, (some .int))
set_option maxRecDepth 20000 in
theorem mk_X12_draw : zMok m_X12_draw 1 := ⟨gt_t8 25 rfl rfl, rfl, by decide, by decide, by decide +kernel, by decide, gt_t1 19 (by decide +kernel) rfl⟩
def m_X12_drawn : zMI := (yX12_drawn, cX12_drawn, 8, (some .int))
set_option maxRecDepth 20000 in
theorem mk_X12_drawn : zMok m_X12_drawn 2 := ⟨gt_t8 21 rfl rfl, rfl, by decide, by decide, by decide +kernel, by decide, gt_t1 19 (by decide +kernel) rfl⟩
def m_X12_line : zMI := (yX12_line, cX12_line, 3, (some .int))
set_option maxRecDepth 20000 in
theorem mk_X12_line : zMok m_X12_line 2 := ⟨gt_t8 30 rfl rfl, rfl, by decide, by decide, by decide +kernel, by decide, gt_t1 19 (by decide +kernel) rfl⟩
def m_X12_follows : zMI := (yX12_follows, cX12_follows, 5, (some .int))
set_option maxRecDepth 20000 in
theorem mk_X12_follows : zMok m_X12_follows 1 := ⟨gt_t8 50 rfl rfl, rfl, by decide, by decide, by decide +kernel, by decide, gt_t1 19 (by decide +kernel) rfl⟩
def m_X12_begin : zMI := (yX12_begin, cX12_begin, 2, none)
set_option maxRecDepth 20000 in
theorem mk_X12_begin : zMok m_X12_begin 0 := ⟨gt_t8 46 rfl rfl, rfl, by decide, by decide, by decide +kernel, by decide, gt_t1 19 (by decide +kernel) rfl⟩
def m_X12_worthOf : zMI := (yX12_worthOf, cX12_worthOf, 6, (some .int))
set_option maxRecDepth 20000 in
theorem mk_X12_worthOf : zMok m_X12_worthOf 2 := ⟨gt_t8 73 rfl rfl, rfl, by decide, by decide, by decide +kernel, by decide, gt_t1 19 (by decide +kernel) rfl⟩
def m_X12_owes : zMI := (yX12_owes, cX12_owes, 6, none)
set_option maxRecDepth 20000 in
theorem mk_X12_owes : zMok m_X12_owes 5 := ⟨gt_t8 62 rfl rfl, rfl, by decide, by decide, by decide +kernel, by decide, gt_t1 19 (by decide +kernel) rfl⟩
def m_X12_learns : zMI := (yX12_learns, cX12_learns, 6, none)
set_option maxRecDepth 20000 in
theorem mk_X12_learns : zMok m_X12_learns 3 := ⟨gt_t8 77 rfl rfl, rfl, by decide, by decide, by decide +kernel, by decide, gt_t1 19 (by decide +kernel) rfl⟩
def m_X12_whyOf : zMI := (yX12_whyOf, cX12_whyOf, 8, (some .int))
set_option maxRecDepth 20000 in
theorem mk_X12_whyOf : zMok m_X12_whyOf 5 := ⟨gt_t8 58 rfl rfl, rfl, by decide, by decide, by decide +kernel, by decide, gt_t1 19 (by decide +kernel) rfl⟩
def m_X12_tells : zMI := (yX12_tells, cX12_tells, 7, none)
set_option maxRecDepth 20000 in
theorem mk_X12_tells : zMok m_X12_tells 4 := ⟨gt_t8 69 rfl rfl, rfl, by decide, by decide, by decide +kernel, by decide, gt_t1 19 (by decide +kernel) rfl⟩
def m_X12_does : zMI := (yX12_does, cX12_does, 13, (some .int))
set_option maxRecDepth 20000 in
theorem mk_X12_does : zMok m_X12_does 1 := ⟨gt_t8 54 rfl rfl, rfl, by decide, by decide, by decide +kernel, by decide, gt_t1 19 (by decide +kernel) rfl⟩
def m_X12_run : zMI := (yX12_run, cX12_run, 3, none)
set_option maxRecDepth 20000 in
theorem mk_X12_run : zMok m_X12_run 1 := ⟨gt_t8 42 rfl rfl, rfl, by decide, by decide, by decide +kernel, by decide, gt_t1 19 (by decide +kernel) rfl⟩
def m_X12_owedAll : zMI := (yX12_owedAll, cX12_owedAll, 3, (some .int))
set_option maxRecDepth 20000 in
theorem mk_X12_owedAll : zMok m_X12_owedAll 0 := ⟨gt_t8 113 rfl rfl, rfl, by decide, by decide, by decide +kernel, by decide, gt_t1 19 (by decide +kernel) rfl⟩
def m_X12_isLate : zMI := (yX12_isLate, cX12_isLate, 2, (some .boolean))
set_option maxRecDepth 20000 in
theorem mk_X12_isLate : zMok m_X12_isLate 1 := ⟨gt_t8 93 rfl rfl, rfl, by decide, by decide, by decide +kernel, by decide, gt_t1 19 (by decide +kernel) rfl⟩
def m_X12_knows : zMI := (yX12_knows, cX12_knows, 3, (some .int))
set_option maxRecDepth 20000 in
theorem mk_X12_knows : zMok m_X12_knows 2 := ⟨gt_t8 34 rfl rfl, rfl, by decide, by decide, by decide +kernel, by decide, gt_t1 19 (by decide +kernel) rfl⟩
def m_X12_wrong : zMI := (yX12_wrong, cX12_wrong, 2, (some .int))
set_option maxRecDepth 20000 in
theorem mk_X12_wrong : zMok m_X12_wrong 1 := ⟨gt_t8 81 rfl rfl, rfl, by decide, by decide, by decide +kernel, by decide, gt_t1 19 (by decide +kernel) rfl⟩
def m_X12_debts : zMI := (yX12_debts, cX12_debts, 1, (some .int))
set_option maxRecDepth 20000 in
theorem mk_X12_debts : zMok m_X12_debts 0 := ⟨gt_t8 85 rfl rfl, rfl, by decide, by decide, by decide +kernel, by decide, gt_t1 19 (by decide +kernel) rfl⟩
def m_X12_debt : zMI := (yX12_debt, cX12_debt, 3, (some .int))
set_option maxRecDepth 20000 in
theorem mk_X12_debt : zMok m_X12_debt 2 := ⟨gt_t8 89 rfl rfl, rfl, by decide, by decide, by decide +kernel, by decide, gt_t1 19 (by decide +kernel) rfl⟩
def m_X12_worth : zMI := (yX12_worth, cX12_worth, 3, (some .int))
set_option maxRecDepth 20000 in
theorem mk_X12_worth : zMok m_X12_worth 2 := ⟨gt_t8 97 rfl rfl, rfl, by decide, by decide, by decide +kernel, by decide, gt_t1 19 (by decide +kernel) rfl⟩
def m_X12_cameOf : zMI := (yX12_cameOf, cX12_cameOf, 5, (some .int))
set_option maxRecDepth 20000 in
theorem mk_X12_cameOf : zMok m_X12_cameOf 2 := ⟨gt_t8 105 rfl rfl, rfl, by decide, by decide, by decide +kernel, by decide, gt_t1 19 (by decide +kernel) rfl⟩
def m_X12_came : zMI := (yX12_came, cX12_came, 3, (some .int))
set_option maxRecDepth 20000 in
theorem mk_X12_came : zMok m_X12_came 2 := ⟨gt_t8 101 rfl rfl, rfl, by decide, by decide, by decide +kernel, by decide, gt_t1 19 (by decide +kernel) rfl⟩
def m_X12_autumn : zMI := (yX12_autumn, cX12_autumn, 4, (some .int))
set_option maxRecDepth 20000 in
theorem mk_X12_autumn : zMok m_X12_autumn 1 := ⟨gt_t8 109 rfl rfl, rfl, by decide, by decide, by decide +kernel, by decide, gt_t1 19 (by decide +kernel) rfl⟩
def m_X12_mayPay : zMI := (yX12_mayPay, cX12_mayPay, 5, (some .boolean))
set_option maxRecDepth 20000 in
theorem mk_X12_mayPay : zMok m_X12_mayPay 2 := ⟨gt_t8 125 rfl rfl, rfl, by decide, by decide, by decide +kernel, by decide, gt_t1 19 (by decide +kernel) rfl⟩
def m_X12_feasts : zMI := (yX12_feasts, cX12_feasts, 7, none)
set_option maxRecDepth 20000 in
theorem mk_X12_feasts : zMok m_X12_feasts 0 := ⟨gt_t8 121 rfl rfl, rfl, by decide, by decide, by decide +kernel, by decide, gt_t1 19 (by decide +kernel) rfl⟩
def m_X12_feast : zMI := (yX12_feast, cX12_feast, 5, (some .int))
set_option maxRecDepth 20000 in
theorem mk_X12_feast : zMok m_X12_feast 1 := ⟨gt_t8 117 rfl rfl, rfl, by decide, by decide, by decide +kernel, by decide, gt_t1 19 (by decide +kernel) rfl⟩
def m_X12_feastAt : zMI := (yX12_feastAt, cX12_feastAt, 2, (some .int))
set_option maxRecDepth 20000 in
theorem mk_X12_feastAt : zMok m_X12_feastAt 1 := ⟨gt_t8 130 rfl rfl, rfl, by decide, by decide, by decide +kernel, by decide, gt_t1 19 (by decide +kernel) rfl⟩
def m_X12_duesOf : zMI := (yX12_duesOf, cX12_duesOf, 4, none)
set_option maxRecDepth 20000 in
theorem mk_X12_duesOf : zMok m_X12_duesOf 1 := ⟨gt_t8 142 rfl rfl, rfl, by decide, by decide, by decide +kernel, by decide, gt_t1 19 (by decide +kernel) rfl⟩
def m_X12_canPay : zMI := (yX12_canPay, cX12_canPay, 7, (some .boolean))
set_option maxRecDepth 20000 in
theorem mk_X12_canPay : zMok m_X12_canPay 2 := ⟨gt_t8 151 rfl rfl, rfl, by decide, by decide, by decide +kernel, by decide, gt_t1 19 (by decide +kernel) rfl⟩
def m_X12_price : zMI := (yX12_price, cX12_price, 6, (some .int))
set_option maxRecDepth 20000 in
theorem mk_X12_price : zMok m_X12_price 2 := ⟨gt_t8 147 rfl rfl, rfl, by decide, by decide, by decide +kernel, by decide, gt_t1 19 (by decide +kernel) rfl⟩
def m_X12_needed : zMI := (yX12_needed, cX12_needed, 6, (some .boolean))
set_option maxRecDepth 20000 in
theorem mk_X12_needed : zMok m_X12_needed 2 := ⟨gt_t8 138 rfl rfl, rfl, by decide, by decide, by decide +kernel, by decide, gt_t1 19 (by decide +kernel) rfl⟩
def m_X12_needs : zMI := (yX12_needs, cX12_needs, 3, (some .int))
set_option maxRecDepth 20000 in
theorem mk_X12_needs : zMok m_X12_needs 2 := ⟨gt_t8 134 rfl rfl, rfl, by decide, by decide, by decide +kernel, by decide, gt_t1 19 (by decide +kernel) rfl⟩
def m_X12_buys : zMI := (yX12_buys, cX12_buys, 3, (some .int))
set_option maxRecDepth 20000 in
theorem mk_X12_buys : zMok m_X12_buys 2 := ⟨gt_t8 155 rfl rfl, rfl, by decide, by decide, by decide +kernel, by decide, gt_t1 19 (by decide +kernel) rfl⟩
def m_X12_terms : zMI := (yX12_terms, cX12_terms, 4, (some .int))
set_option maxRecDepth 20000 in
theorem mk_X12_terms : zMok m_X12_terms 1 := ⟨gt_t8 159 rfl rfl, rfl, by decide, by decide, by decide +kernel, by decide, gt_t1 19 (by decide +kernel) rfl⟩
def m_X12_source : zMI := (yX12_source, cX12_source, 3, (some .int))
set_option maxRecDepth 20000 in
theorem mk_X12_source : zMok m_X12_source 2 := ⟨gt_t8 163 rfl rfl, rfl, by decide, by decide, by decide +kernel, by decide, gt_t1 19 (by decide +kernel) rfl⟩
def m_X12_led : zMI := (yX12_led, cX12_led, 5, (some .int))
set_option maxRecDepth 20000 in
theorem mk_X12_led : zMok m_X12_led 2 := ⟨gt_t8 167 rfl rfl, rfl, by decide, by decide, by decide +kernel, by decide, gt_t1 19 (by decide +kernel) rfl⟩
def m_X12_order : zMI := (yX12_order, cX12_order, 11, (some .int))
set_option maxRecDepth 20000 in
theorem mk_X12_order : zMok m_X12_order 0 := ⟨gt_t8 171 rfl rfl, rfl, by decide, by decide, by decide +kernel, by decide, gt_t1 19 (by decide +kernel) rfl⟩
def m_X12_orderAt : zMI := (yX12_orderAt, cX12_orderAt, 2, (some .int))
set_option maxRecDepth 20000 in
theorem mk_X12_orderAt : zMok m_X12_orderAt 1 := ⟨gt_t8 179 rfl rfl, rfl, by decide, by decide, by decide +kernel, by decide, gt_t1 19 (by decide +kernel) rfl⟩
def m_X12_ripple : zMI := (yX12_ripple, cX12_ripple, 9, (some .int))
set_option maxRecDepth 20000 in
theorem mk_X12_ripple : zMok m_X12_ripple 4 := ⟨gt_t8 183 rfl rfl, rfl, by decide, by decide, by decide +kernel, by decide, gt_t1 19 (by decide +kernel) rfl⟩
def m_X12_unsaid : zMI := (yX12_unsaid, cX12_unsaid, 2, (some .int))
set_option maxRecDepth 20000 in
theorem mk_X12_unsaid : zMok m_X12_unsaid 1 := ⟨gt_t8 187 rfl rfl, rfl, by decide, by decide, by decide +kernel, by decide, gt_t1 19 (by decide +kernel) rfl⟩
def m_X12_lay : zMI := (yX12_lay, cX12_lay, 2, none)
set_option maxRecDepth 20000 in
theorem mk_X12_lay : zMok m_X12_lay 1 := ⟨gt_t8 195 rfl rfl, rfl, by decide, by decide, by decide +kernel, by decide, gt_t1 19 (by decide +kernel) rfl⟩
def m_X12_cord : zMI := (yX12_cord, cX12_cord, 3, (some .int))
set_option maxRecDepth 20000 in
theorem mk_X12_cord : zMok m_X12_cord 2 := ⟨gt_t8 191 rfl rfl, rfl, by decide, by decide, by decide +kernel, by decide, gt_t1 19 (by decide +kernel) rfl⟩
def m_X12_takesCord : zMI := (yX12_takesCord, cX12_takesCord, 2, (some .boolean))
set_option maxRecDepth 20000 in
theorem mk_X12_takesCord : zMok m_X12_takesCord 0 := ⟨gt_t8 203 rfl rfl, rfl, by decide, by decide, by decide +kernel, by decide, gt_t1 19 (by decide +kernel) rfl⟩
def m_X12_readSeen : zMI := (yX12_readSeen, cX12_readSeen, 1, (some .int))
set_option maxRecDepth 20000 in
theorem mk_X12_readSeen : zMok m_X12_readSeen 0 := ⟨gt_t8 207 rfl rfl, rfl, by decide, by decide, by decide +kernel, by decide, gt_t1 19 (by decide +kernel) rfl⟩
def m_X12_read : zMI := (yX12_read, cX12_read, 1, (some .int))
set_option maxRecDepth 20000 in
theorem mk_X12_read : zMok m_X12_read 0 := ⟨gt_t8 199 rfl rfl, rfl, by decide, by decide, by decide +kernel, by decide, gt_t1 19 (by decide +kernel) rfl⟩
def m_X12_near : zMI := (yX12_near, cX12_near, 6, (some .int))
set_option maxRecDepth 20000 in
theorem mk_X12_near : zMok m_X12_near 1 := ⟨gt_t8 211 rfl rfl, rfl, by decide, by decide, by decide +kernel, by decide, gt_t1 19 (by decide +kernel) rfl⟩
def m_X12_measure : zMI := (yX12_measure, cX12_measure, 4, none)
set_option maxRecDepth 20000 in
theorem mk_X12_measure : zMok m_X12_measure 1 := ⟨gt_t8 219 rfl rfl, rfl, by decide, by decide, by decide +kernel, by decide, gt_t1 19 (by decide +kernel) rfl⟩
def m_X12_measured : zMI := (yX12_measured, cX12_measured, 3, (some .int))
set_option maxRecDepth 20000 in
theorem mk_X12_measured : zMok m_X12_measured 2 := ⟨gt_t8 215 rfl rfl, rfl, by decide, by decide, by decide +kernel, by decide, gt_t1 19 (by decide +kernel) rfl⟩
def m_X12_slips : zMI := (yX12_slips, cX12_slips, 6, (some .int))
set_option maxRecDepth 20000 in
theorem mk_X12_slips : zMok m_X12_slips 3 := ⟨gt_t8 223 rfl rfl, rfl, by decide, by decide, by decide +kernel, by decide, gt_t1 19 (by decide +kernel) rfl⟩
def m_X12_write : zMI := (yX12_write, cX12_write, 4, none)
set_option maxRecDepth 20000 in
theorem mk_X12_write : zMok m_X12_write 3 := ⟨gt_t9 11 rfl rfl, rfl, by decide, by decide, by decide +kernel, by decide, gt_t1 19 (by decide +kernel) rfl⟩
def m_X12_writeDown : zMI := (yX12_writeDown, cX12_writeDown, 2, none)
set_option maxRecDepth 20000 in
theorem mk_X12_writeDown : zMok m_X12_writeDown 1 := ⟨gt_t9 15 rfl rfl, rfl, by decide, by decide, by decide +kernel, by decide, gt_t1 19 (by decide +kernel) rfl⟩
def m_X12_binds : zMI := (yX12_binds, cX12_binds, 1, (some .int))
set_option maxRecDepth 20000 in
theorem mk_X12_binds : zMok m_X12_binds 1 := ⟨gt_t9 18 rfl rfl, rfl, by decide, by decide, by decide +kernel, by decide, gt_t1 19 (by decide +kernel) rfl⟩
def m_X12_opened : zMI := (yX12_opened, cX12_opened, 3, (some .int))
set_option maxRecDepth 20000 in
theorem mk_X12_opened : zMok m_X12_opened 0 := ⟨gt_t9 3 rfl rfl, rfl, by decide, by decide, by decide +kernel, by decide, gt_t1 19 (by decide +kernel) rfl⟩
def m_X12_isOpen : zMI := (yX12_isOpen, cX12_isOpen, 2, (some .boolean))
set_option maxRecDepth 20000 in
theorem mk_X12_isOpen : zMok m_X12_isOpen 0 := ⟨gt_t9 22 rfl rfl, rfl, by decide, by decide, by decide +kernel, by decide, gt_t1 19 (by decide +kernel) rfl⟩
def m_X12_cond : zMI := (yX12_cond, cX12_cond, 2, (some .boolean))
set_option maxRecDepth 20000 in
theorem mk_X12_cond : zMok m_X12_cond 0 := ⟨gt_t8 231 rfl rfl, rfl, by decide, by decide, by decide +kernel, by decide, gt_t1 19 (by decide +kernel) rfl⟩
def m_X12_atom : zMI := (yX12_atom, cX12_atom, 1, (some .int))
set_option maxRecDepth 20000 in
theorem mk_X12_atom : zMok m_X12_atom 0 := ⟨gt_t8 239 rfl rfl, rfl, by decide, by decide, by decide +kernel, by decide, gt_t1 19 (by decide +kernel) rfl⟩
def m_X12_one : zMI := (yX12_one, cX12_one, 3, (some .boolean))
set_option maxRecDepth 20000 in
theorem mk_X12_one : zMok m_X12_one 0 := ⟨gt_t8 235 rfl rfl, rfl, by decide, by decide, by decide +kernel, by decide, gt_t1 19 (by decide +kernel) rfl⟩
def m_X12_asks : zMI := (yX12_asks, cX12_asks, 4, (some .boolean))
set_option maxRecDepth 20000 in
theorem mk_X12_asks : zMok m_X12_asks 1 := ⟨gt_t9 7 rfl rfl, rfl, by decide, by decide, by decide +kernel, by decide, gt_t1 19 (by decide +kernel) rfl⟩
def m_X12_sentence : zMI := (yX12_sentence, cX12_sentence, 2, (some .int))
set_option maxRecDepth 20000 in
theorem mk_X12_sentence : zMok m_X12_sentence 0 := ⟨gt_t8 227 rfl rfl, rfl, by decide, by decide, by decide +kernel, by decide, gt_t1 19 (by decide +kernel) rfl⟩
def m_X12_so : zMI := (yX12_so, cX12_so, 6, (some .boolean))
set_option maxRecDepth 20000 in
theorem mk_X12_so : zMok m_X12_so 4 := ⟨gt_t9 34 rfl rfl, rfl, by decide, by decide, by decide +kernel, by decide, gt_t1 19 (by decide +kernel) rfl⟩
def m_X12_isSaid : zMI := (yX12_isSaid, cX12_isSaid, 5, (some .boolean))
set_option maxRecDepth 20000 in
theorem mk_X12_isSaid : zMok m_X12_isSaid 1 := ⟨gt_t9 30 rfl rfl, rfl, by decide, by decide, by decide +kernel, by decide, gt_t1 19 (by decide +kernel) rfl⟩
def m_X12_said : zMI := (yX12_said, cX12_said, 3, (some .int))
set_option maxRecDepth 20000 in
theorem mk_X12_said : zMok m_X12_said 0 := ⟨gt_t9 26 rfl rfl, rfl, by decide, by decide, by decide +kernel, by decide, gt_t1 19 (by decide +kernel) rfl⟩
def m_X12_image : zMI := (yX12_image, cX12_image, 3, (some .boolean))
set_option maxRecDepth 20000 in
theorem mk_X12_image : zMok m_X12_image 1 := ⟨gt_t9 38 rfl rfl, rfl, by decide, by decide, by decide +kernel, by decide, gt_t1 19 (by decide +kernel) rfl⟩
def m_X12_restore : zMI := (yX12_restore, cX12_restore, 3, (some .boolean))
set_option maxRecDepth 20000 in
theorem mk_X12_restore : zMok m_X12_restore 1 := ⟨gt_t9 42 rfl rfl, rfl, by decide, by decide, by decide +kernel, by decide, gt_t1 19 (by decide +kernel) rfl⟩
def m_X12_count : zMI := (yX12_count, cX12_count, 2, (some .int))
set_option maxRecDepth 20000 in
theorem mk_X12_count : zMok m_X12_count 1 := ⟨gt_t9 46 rfl rfl, rfl, by decide, by decide, by decide +kernel, by decide, gt_t1 19 (by decide +kernel) rfl⟩
def m_J6_bitCount_0f7a4 : zMI := (yJ6_bitCount_0f7a4, cJ6_bitCount_0f7a4, 1, (some .int))
set_option maxRecDepth 20000 in
theorem mk_J6_bitCount_0f7a4 : zMok m_J6_bitCount_0f7a4 1 := ⟨gt_t4 10 rfl rfl, rfl, by decide, by decide, by decide +kernel, by decide, gt_t1 21 (by decide +kernel) rfl⟩
def m_J7_fill_d0a16 : zMI := (yJ7_fill_d0a16, cJ7_fill_d0a16, 5, none)
set_option maxRecDepth 20000 in
theorem mk_J7_fill_d0a16 : zMok m_J7_fill_d0a16 2 := ⟨gt_t4 198 rfl rfl, rfl, by decide, by decide, by decide +kernel, by decide, gt_t1 9 (by decide +kernel) rfl⟩
def m_J7_fill_53178 : zMI := (yJ7_fill_53178, cJ7_fill_53178, 4, none)
set_option maxRecDepth 20000 in
theorem mk_J7_fill_53178 : zMok m_J7_fill_53178 2 := ⟨gt_t1 151 rfl rfl, rfl, by decide, by decide, by decide +kernel, by decide, gt_t1 9 (by decide +kernel) rfl⟩
theorem fl_7_9 : zFL RX7 9 7 0 := ⟨RX7, TX7, 2, tyX7, ck_7, by decide, rfl, Or.inl (gt_t1 40 (by decide +kernel) rfl)⟩
theorem fl_8_36 : zFL RX8 36 7 0 := ⟨RX7, TX7, 2, tyX7, ck_7, by decide, rfl, Or.inl (gt_t1 41 (by decide +kernel) rfl)⟩
theorem fl_5_60 : zFL RX5 60 7 0 := ⟨RX7, TX7, 2, tyX7, ck_7, by decide, rfl, Or.inl (gt_t1 42 (by decide +kernel) rfl)⟩
theorem fl_11_388 : zFL RX11 388 7 0 := ⟨RX7, TX7, 2, tyX7, ck_7, by decide, rfl, Or.inl (gt_t1 43 (by decide +kernel) rfl)⟩
theorem fl_8_27 : zFL RX8 27 7 1 := ⟨RX7, TX7, 2, tyX7, ck_7, by decide, rfl, Or.inl (gt_t1 44 (by decide +kernel) rfl)⟩
theorem pl_8_27 : zPL RX8 27 7 1 0 := ⟨fl_8_27, fun C T N h => by cases (show vwCl[7]? = some (RX7, TX7, 2) from rfl).symm.trans h; exact ⟨rfl, tyX7_ok 1 (by decide)⟩⟩
theorem fl_11_110 : zFL RX11 110 7 1 := ⟨RX7, TX7, 2, tyX7, ck_7, by decide, rfl, Or.inl (gt_t1 45 (by decide +kernel) rfl)⟩
theorem pl_11_110 : zPL RX11 110 7 1 0 := ⟨fl_11_110, fun C T N h => by cases (show vwCl[7]? = some (RX7, TX7, 2) from rfl).symm.trans h; exact ⟨rfl, tyX7_ok 1 (by decide)⟩⟩
theorem fl_5_31 : zFL RX5 31 7 1 := ⟨RX7, TX7, 2, tyX7, ck_7, by decide, rfl, Or.inl (gt_t1 46 (by decide +kernel) rfl)⟩
theorem pl_5_31 : zPL RX5 31 7 1 0 := ⟨fl_5_31, fun C T N h => by cases (show vwCl[7]? = some (RX7, TX7, 2) from rfl).symm.trans h; exact ⟨rfl, tyX7_ok 1 (by decide)⟩⟩
theorem fl_7_15 : zFL RX7 15 7 1 := ⟨RX7, TX7, 2, tyX7, ck_7, by decide, rfl, Or.inl (gt_t1 47 (by decide +kernel) rfl)⟩
theorem pl_7_15 : zPL RX7 15 7 1 0 := ⟨fl_7_15, fun C T N h => by cases (show vwCl[7]? = some (RX7, TX7, 2) from rfl).symm.trans h; exact ⟨rfl, tyX7_ok 1 (by decide)⟩⟩
theorem fl_5_15 : zFL RX5 15 5 0 := ⟨RX5, TX5, 8, tyX5, ck_5, by decide, rfl, Or.inl (gt_t1 109 (by decide +kernel) rfl)⟩
theorem fl_5_9 : zFL RX5 9 5 1 := ⟨RX5, TX5, 8, tyX5, ck_5, by decide, rfl, Or.inl (gt_t1 110 (by decide +kernel) rfl)⟩
theorem fl_5_42 : zFL RX5 42 5 2 := ⟨RX5, TX5, 8, tyX5, ck_5, by decide, rfl, Or.inl (gt_t1 111 (by decide +kernel) rfl)⟩
theorem pl_5_42 : zPL RX5 42 5 2 0 := ⟨fl_5_42, fun C T N h => by cases (show vwCl[5]? = some (RX5, TX5, 8) from rfl).symm.trans h; exact ⟨rfl, tyX5_ok 2 (by decide)⟩⟩
theorem fl_5_45 : zFL RX5 45 5 3 := ⟨RX5, TX5, 8, tyX5, ck_5, by decide, rfl, Or.inl (gt_t1 112 (by decide +kernel) rfl)⟩
theorem pl_5_45 : zPL RX5 45 5 3 0 := ⟨fl_5_45, fun C T N h => by cases (show vwCl[5]? = some (RX5, TX5, 8) from rfl).symm.trans h; exact ⟨rfl, tyX5_ok 3 (by decide)⟩⟩
theorem fl_5_51 : zFL RX5 51 5 4 := ⟨RX5, TX5, 8, tyX5, ck_5, by decide, rfl, Or.inl (gt_t1 113 (by decide +kernel) rfl)⟩
theorem pl_5_51 : zPL RX5 51 5 4 0 := ⟨fl_5_51, fun C T N h => by cases (show vwCl[5]? = some (RX5, TX5, 8) from rfl).symm.trans h; exact ⟨rfl, tyX5_ok 4 (by decide)⟩⟩
theorem fl_6_49 : zFL RX6 49 5 4 := ⟨RX5, TX5, 8, tyX5, ck_5, by decide, rfl, Or.inl (gt_t1 114 (by decide +kernel) rfl)⟩
theorem pl_6_49 : zPL RX6 49 5 4 0 := ⟨fl_6_49, fun C T N h => by cases (show vwCl[5]? = some (RX5, TX5, 8) from rfl).symm.trans h; exact ⟨rfl, tyX5_ok 4 (by decide)⟩⟩
theorem fl_9_78 : zFL RX9 78 5 4 := ⟨RX5, TX5, 8, tyX5, ck_5, by decide, rfl, Or.inl (gt_t1 115 (by decide +kernel) rfl)⟩
theorem pl_9_78 : zPL RX9 78 5 4 0 := ⟨fl_9_78, fun C T N h => by cases (show vwCl[5]? = some (RX5, TX5, 8) from rfl).symm.trans h; exact ⟨rfl, tyX5_ok 4 (by decide)⟩⟩
theorem fl_0_76 : zFL RX0 76 5 4 := ⟨RX5, TX5, 8, tyX5, ck_5, by decide, rfl, Or.inl (gt_t1 116 (by decide +kernel) rfl)⟩
theorem pl_0_76 : zPL RX0 76 5 4 0 := ⟨fl_0_76, fun C T N h => by cases (show vwCl[5]? = some (RX5, TX5, 8) from rfl).symm.trans h; exact ⟨rfl, tyX5_ok 4 (by decide)⟩⟩
theorem fl_5_48 : zFL RX5 48 5 5 := ⟨RX5, TX5, 8, tyX5, ck_5, by decide, rfl, Or.inl (gt_t1 117 (by decide +kernel) rfl)⟩
theorem pl_5_48 : zPL RX5 48 5 5 0 := ⟨fl_5_48, fun C T N h => by cases (show vwCl[5]? = some (RX5, TX5, 8) from rfl).symm.trans h; exact ⟨rfl, tyX5_ok 5 (by decide)⟩⟩
theorem fl_11_382 : zFL RX11 382 5 5 := ⟨RX5, TX5, 8, tyX5, ck_5, by decide, rfl, Or.inl (gt_t1 118 (by decide +kernel) rfl)⟩
theorem pl_11_382 : zPL RX11 382 5 5 0 := ⟨fl_11_382, fun C T N h => by cases (show vwCl[5]? = some (RX5, TX5, 8) from rfl).symm.trans h; exact ⟨rfl, tyX5_ok 5 (by decide)⟩⟩
theorem fl_5_54 : zFL RX5 54 5 6 := ⟨RX5, TX5, 8, tyX5, ck_5, by decide, rfl, Or.inl (gt_t1 119 (by decide +kernel) rfl)⟩
theorem pl_5_54 : zPL RX5 54 5 6 0 := ⟨fl_5_54, fun C T N h => by cases (show vwCl[5]? = some (RX5, TX5, 8) from rfl).symm.trans h; exact ⟨rfl, tyX5_ok 6 (by decide)⟩⟩
theorem fl_6_89 : zFL RX6 89 5 6 := ⟨RX5, TX5, 8, tyX5, ck_5, by decide, rfl, Or.inl (gt_t1 120 (by decide +kernel) rfl)⟩
theorem pl_6_89 : zPL RX6 89 5 6 0 := ⟨fl_6_89, fun C T N h => by cases (show vwCl[5]? = some (RX5, TX5, 8) from rfl).symm.trans h; exact ⟨rfl, tyX5_ok 6 (by decide)⟩⟩
theorem fl_9_120 : zFL RX9 120 5 6 := ⟨RX5, TX5, 8, tyX5, ck_5, by decide, rfl, Or.inl (gt_t1 121 (by decide +kernel) rfl)⟩
theorem pl_9_120 : zPL RX9 120 5 6 0 := ⟨fl_9_120, fun C T N h => by cases (show vwCl[5]? = some (RX5, TX5, 8) from rfl).symm.trans h; exact ⟨rfl, tyX5_ok 6 (by decide)⟩⟩
theorem fl_0_98 : zFL RX0 98 5 6 := ⟨RX5, TX5, 8, tyX5, ck_5, by decide, rfl, Or.inl (gt_t1 122 (by decide +kernel) rfl)⟩
theorem pl_0_98 : zPL RX0 98 5 6 0 := ⟨fl_0_98, fun C T N h => by cases (show vwCl[5]? = some (RX5, TX5, 8) from rfl).symm.trans h; exact ⟨rfl, tyX5_ok 6 (by decide)⟩⟩
theorem fl_5_57 : zFL RX5 57 5 7 := ⟨RX5, TX5, 8, tyX5, ck_5, by decide, rfl, Or.inl (gt_t1 123 (by decide +kernel) rfl)⟩
theorem pl_5_57 : zPL RX5 57 5 7 0 := ⟨fl_5_57, fun C T N h => by cases (show vwCl[5]? = some (RX5, TX5, 8) from rfl).symm.trans h; exact ⟨rfl, tyX5_ok 7 (by decide)⟩⟩
theorem fl_11_379 : zFL RX11 379 5 7 := ⟨RX5, TX5, 8, tyX5, ck_5, by decide, rfl, Or.inl (gt_t1 124 (by decide +kernel) rfl)⟩
theorem pl_11_379 : zPL RX11 379 5 7 0 := ⟨fl_11_379, fun C T N h => by cases (show vwCl[5]? = some (RX5, TX5, 8) from rfl).symm.trans h; exact ⟨rfl, tyX5_ok 7 (by decide)⟩⟩
theorem sl_9_48 : Cond.fieldLinkNest RX9 48 RX11 (zsetn 0) "[I" "TruthCord" ∈ nw := nw_t1 152 (by decide +kernel) rfl
theorem fl_9_57 : zFL RX9 57 9 0 := ⟨RX9, TX9, 14, tyX9, ck_9, by decide, rfl, Or.inl (gt_t1 157 (by decide +kernel) rfl)⟩
theorem pl_9_57 : zPL RX9 57 9 0 0 := ⟨fl_9_57, fun C T N h => by cases (show vwCl[9]? = some (RX9, TX9, 14) from rfl).symm.trans h; exact ⟨rfl, tyX9_ok 0 (by decide)⟩⟩
theorem fl_4_65 : zFL RX4 65 9 0 := ⟨RX9, TX9, 14, tyX9, ck_9, by decide, rfl, Or.inl (gt_t1 158 (by decide +kernel) rfl)⟩
theorem pl_4_65 : zPL RX4 65 9 0 0 := ⟨fl_4_65, fun C T N h => by cases (show vwCl[9]? = some (RX9, TX9, 14) from rfl).symm.trans h; exact ⟨rfl, tyX9_ok 0 (by decide)⟩⟩
theorem fl_0_59 : zFL RX0 59 9 0 := ⟨RX9, TX9, 14, tyX9, ck_9, by decide, rfl, Or.inl (gt_t1 159 (by decide +kernel) rfl)⟩
theorem pl_0_59 : zPL RX0 59 9 0 0 := ⟨fl_0_59, fun C T N h => by cases (show vwCl[9]? = some (RX9, TX9, 14) from rfl).symm.trans h; exact ⟨rfl, tyX9_ok 0 (by decide)⟩⟩
theorem fl_11_180 : zFL RX11 180 9 0 := ⟨RX9, TX9, 14, tyX9, ck_9, by decide, rfl, Or.inl (gt_t1 160 (by decide +kernel) rfl)⟩
theorem pl_11_180 : zPL RX11 180 9 0 0 := ⟨fl_11_180, fun C T N h => by cases (show vwCl[9]? = some (RX9, TX9, 14) from rfl).symm.trans h; exact ⟨rfl, tyX9_ok 0 (by decide)⟩⟩
theorem fl_6_102 : zFL RX6 102 9 0 := ⟨RX9, TX9, 14, tyX9, ck_9, by decide, rfl, Or.inl (gt_t1 161 (by decide +kernel) rfl)⟩
theorem pl_6_102 : zPL RX6 102 9 0 0 := ⟨fl_6_102, fun C T N h => by cases (show vwCl[9]? = some (RX9, TX9, 14) from rfl).symm.trans h; exact ⟨rfl, tyX9_ok 0 (by decide)⟩⟩
theorem fl_9_61 : zFL RX9 61 9 1 := ⟨RX9, TX9, 14, tyX9, ck_9, by decide, rfl, Or.inl (gt_t1 162 (by decide +kernel) rfl)⟩
theorem pl_9_61 : zPL RX9 61 9 1 0 := ⟨fl_9_61, fun C T N h => by cases (show vwCl[9]? = some (RX9, TX9, 14) from rfl).symm.trans h; exact ⟨rfl, tyX9_ok 1 (by decide)⟩⟩
theorem fl_2_48 : zFL RX2 48 9 1 := ⟨RX9, TX9, 14, tyX9, ck_9, by decide, rfl, Or.inl (gt_t1 163 (by decide +kernel) rfl)⟩
theorem pl_2_48 : zPL RX2 48 9 1 0 := ⟨fl_2_48, fun C T N h => by cases (show vwCl[9]? = some (RX9, TX9, 14) from rfl).symm.trans h; exact ⟨rfl, tyX9_ok 1 (by decide)⟩⟩
theorem fl_10_38 : zFL RX10 38 9 1 := ⟨RX9, TX9, 14, tyX9, ck_9, by decide, rfl, Or.inl (gt_t1 164 (by decide +kernel) rfl)⟩
theorem pl_10_38 : zPL RX10 38 9 1 0 := ⟨fl_10_38, fun C T N h => by cases (show vwCl[9]? = some (RX9, TX9, 14) from rfl).symm.trans h; exact ⟨rfl, tyX9_ok 1 (by decide)⟩⟩
theorem fl_0_64 : zFL RX0 64 9 1 := ⟨RX9, TX9, 14, tyX9, ck_9, by decide, rfl, Or.inl (gt_t1 165 (by decide +kernel) rfl)⟩
theorem pl_0_64 : zPL RX0 64 9 1 0 := ⟨fl_0_64, fun C T N h => by cases (show vwCl[9]? = some (RX9, TX9, 14) from rfl).symm.trans h; exact ⟨rfl, tyX9_ok 1 (by decide)⟩⟩
theorem fl_6_82 : zFL RX6 82 9 1 := ⟨RX9, TX9, 14, tyX9, ck_9, by decide, rfl, Or.inl (gt_t1 166 (by decide +kernel) rfl)⟩
theorem pl_6_82 : zPL RX6 82 9 1 0 := ⟨fl_6_82, fun C T N h => by cases (show vwCl[9]? = some (RX9, TX9, 14) from rfl).symm.trans h; exact ⟨rfl, tyX9_ok 1 (by decide)⟩⟩
theorem fl_11_183 : zFL RX11 183 9 1 := ⟨RX9, TX9, 14, tyX9, ck_9, by decide, rfl, Or.inl (gt_t1 167 (by decide +kernel) rfl)⟩
theorem pl_11_183 : zPL RX11 183 9 1 0 := ⟨fl_11_183, fun C T N h => by cases (show vwCl[9]? = some (RX9, TX9, 14) from rfl).symm.trans h; exact ⟨rfl, tyX9_ok 1 (by decide)⟩⟩
theorem fl_4_163 : zFL RX4 163 9 1 := ⟨RX9, TX9, 14, tyX9, ck_9, by decide, rfl, Or.inl (gt_t1 168 (by decide +kernel) rfl)⟩
theorem pl_4_163 : zPL RX4 163 9 1 0 := ⟨fl_4_163, fun C T N h => by cases (show vwCl[9]? = some (RX9, TX9, 14) from rfl).symm.trans h; exact ⟨rfl, tyX9_ok 1 (by decide)⟩⟩
theorem fl_9_64 : zFL RX9 64 9 2 := ⟨RX9, TX9, 14, tyX9, ck_9, by decide, rfl, Or.inl (gt_t1 169 (by decide +kernel) rfl)⟩
theorem pl_9_64 : zPL RX9 64 9 2 0 := ⟨fl_9_64, fun C T N h => by cases (show vwCl[9]? = some (RX9, TX9, 14) from rfl).symm.trans h; exact ⟨rfl, tyX9_ok 2 (by decide)⟩⟩
theorem fl_11_376 : zFL RX11 376 9 2 := ⟨RX9, TX9, 14, tyX9, ck_9, by decide, rfl, Or.inl (gt_t1 170 (by decide +kernel) rfl)⟩
theorem pl_11_376 : zPL RX11 376 9 2 0 := ⟨fl_11_376, fun C T N h => by cases (show vwCl[9]? = some (RX9, TX9, 14) from rfl).symm.trans h; exact ⟨rfl, tyX9_ok 2 (by decide)⟩⟩
theorem fl_9_67 : zFL RX9 67 9 3 := ⟨RX9, TX9, 14, tyX9, ck_9, by decide, rfl, Or.inl (gt_t1 171 (by decide +kernel) rfl)⟩
theorem pl_9_67 : zPL RX9 67 9 3 0 := ⟨fl_9_67, fun C T N h => by cases (show vwCl[9]? = some (RX9, TX9, 14) from rfl).symm.trans h; exact ⟨rfl, tyX9_ok 3 (by decide)⟩⟩
theorem fl_9_9 : zFL RX9 9 9 4 := ⟨RX9, TX9, 14, tyX9, ck_9, by decide, rfl, Or.inl (gt_t1 172 (by decide +kernel) rfl)⟩
theorem fl_0_101 : zFL RX0 101 9 4 := ⟨RX9, TX9, 14, tyX9, ck_9, by decide, rfl, Or.inl (gt_t1 173 (by decide +kernel) rfl)⟩
theorem fl_9_15 : zFL RX9 15 9 5 := ⟨RX9, TX9, 14, tyX9, ck_9, by decide, rfl, Or.inl (gt_t1 174 (by decide +kernel) rfl)⟩
theorem fl_4_71 : zFL RX4 71 9 5 := ⟨RX9, TX9, 14, tyX9, ck_9, by decide, rfl, Or.inl (gt_t1 175 (by decide +kernel) rfl)⟩
theorem fl_11_161 : zFL RX11 161 9 5 := ⟨RX9, TX9, 14, tyX9, ck_9, by decide, rfl, Or.inl (gt_t1 176 (by decide +kernel) rfl)⟩
theorem fl_9_18 : zFL RX9 18 9 6 := ⟨RX9, TX9, 14, tyX9, ck_9, by decide, rfl, Or.inl (gt_t1 177 (by decide +kernel) rfl)⟩
theorem fl_6_77 : zFL RX6 77 9 6 := ⟨RX9, TX9, 14, tyX9, ck_9, by decide, rfl, Or.inl (gt_t1 178 (by decide +kernel) rfl)⟩
theorem fl_0_124 : zFL RX0 124 9 6 := ⟨RX9, TX9, 14, tyX9, ck_9, by decide, rfl, Or.inl (gt_t1 179 (by decide +kernel) rfl)⟩
theorem fl_9_21 : zFL RX9 21 9 7 := ⟨RX9, TX9, 14, tyX9, ck_9, by decide, rfl, Or.inl (gt_t1 180 (by decide +kernel) rfl)⟩
theorem fl_4_114 : zFL RX4 114 9 7 := ⟨RX9, TX9, 14, tyX9, ck_9, by decide, rfl, Or.inl (gt_t1 181 (by decide +kernel) rfl)⟩
theorem fl_11_149 : zFL RX11 149 9 7 := ⟨RX9, TX9, 14, tyX9, ck_9, by decide, rfl, Or.inl (gt_t1 182 (by decide +kernel) rfl)⟩
theorem fl_9_24 : zFL RX9 24 9 8 := ⟨RX9, TX9, 14, tyX9, ck_9, by decide, rfl, Or.inl (gt_t1 183 (by decide +kernel) rfl)⟩
theorem fl_2_53 : zFL RX2 53 9 8 := ⟨RX9, TX9, 14, tyX9, ck_9, by decide, rfl, Or.inl (gt_t1 184 (by decide +kernel) rfl)⟩
theorem fl_11_152 : zFL RX11 152 9 8 := ⟨RX9, TX9, 14, tyX9, ck_9, by decide, rfl, Or.inl (gt_t1 185 (by decide +kernel) rfl)⟩
theorem fl_4_157 : zFL RX4 157 9 8 := ⟨RX9, TX9, 14, tyX9, ck_9, by decide, rfl, Or.inl (gt_t1 186 (by decide +kernel) rfl)⟩
theorem fl_9_27 : zFL RX9 27 9 9 := ⟨RX9, TX9, 14, tyX9, ck_9, by decide, rfl, Or.inl (gt_t1 187 (by decide +kernel) rfl)⟩
theorem fl_11_155 : zFL RX11 155 9 9 := ⟨RX9, TX9, 14, tyX9, ck_9, by decide, rfl, Or.inl (gt_t1 188 (by decide +kernel) rfl)⟩
theorem fl_4_156 : zFL RX4 156 9 9 := ⟨RX9, TX9, 14, tyX9, ck_9, by decide, rfl, Or.inl (gt_t1 189 (by decide +kernel) rfl)⟩
theorem fl_9_30 : zFL RX9 30 9 10 := ⟨RX9, TX9, 14, tyX9, ck_9, by decide, rfl, Or.inl (gt_t1 190 (by decide +kernel) rfl)⟩
theorem fl_9_33 : zFL RX9 33 9 11 := ⟨RX9, TX9, 14, tyX9, ck_9, by decide, rfl, Or.inl (gt_t1 191 (by decide +kernel) rfl)⟩
theorem fl_9_36 : zFL RX9 36 9 12 := ⟨RX9, TX9, 14, tyX9, ck_9, by decide, rfl, Or.inl (gt_t1 192 (by decide +kernel) rfl)⟩
theorem fl_4_204 : zFL RX4 204 9 12 := ⟨RX9, TX9, 14, tyX9, ck_9, by decide, rfl, Or.inl (gt_t1 193 (by decide +kernel) rfl)⟩
theorem fl_9_39 : zFL RX9 39 9 13 := ⟨RX9, TX9, 14, tyX9, ck_9, by decide, rfl, Or.inl (gt_t1 194 (by decide +kernel) rfl)⟩
theorem fl_4_117 : zFL RX4 117 9 13 := ⟨RX9, TX9, 14, tyX9, ck_9, by decide, rfl, Or.inl (gt_t1 195 (by decide +kernel) rfl)⟩
theorem fl_11_297 : zFL RX11 297 9 13 := ⟨RX9, TX9, 14, tyX9, ck_9, by decide, rfl, Or.inl (gt_t1 196 (by decide +kernel) rfl)⟩
theorem fl_0_33 : zFL RX0 33 0 0 := ⟨RX0, TX0, 9, tyX0, ck_0, by decide, rfl, Or.inl (gt_t1 232 (by decide +kernel) rfl)⟩
theorem pl_0_33 : zPL RX0 33 0 0 0 := ⟨fl_0_33, fun C T N h => by cases (show vwCl[0]? = some (RX0, TX0, 9) from rfl).symm.trans h; exact ⟨rfl, tyX0_ok 0 (by decide)⟩⟩
theorem fl_4_87 : zFL RX4 87 0 0 := ⟨RX0, TX0, 9, tyX0, ck_0, by decide, rfl, Or.inl (gt_t1 233 (by decide +kernel) rfl)⟩
theorem pl_4_87 : zPL RX4 87 0 0 0 := ⟨fl_4_87, fun C T N h => by cases (show vwCl[0]? = some (RX0, TX0, 9) from rfl).symm.trans h; exact ⟨rfl, tyX0_ok 0 (by decide)⟩⟩
theorem fl_11_177 : zFL RX11 177 0 0 := ⟨RX0, TX0, 9, tyX0, ck_0, by decide, rfl, Or.inl (gt_t1 234 (by decide +kernel) rfl)⟩
theorem pl_11_177 : zPL RX11 177 0 0 0 := ⟨fl_11_177, fun C T N h => by cases (show vwCl[0]? = some (RX0, TX0, 9) from rfl).symm.trans h; exact ⟨rfl, tyX0_ok 0 (by decide)⟩⟩
theorem fl_0_37 : zFL RX0 37 0 1 := ⟨RX0, TX0, 9, tyX0, ck_0, by decide, rfl, Or.inl (gt_t1 235 (by decide +kernel) rfl)⟩
theorem pl_0_37 : zPL RX0 37 0 1 0 := ⟨fl_0_37, fun C T N h => by cases (show vwCl[0]? = some (RX0, TX0, 9) from rfl).symm.trans h; exact ⟨rfl, tyX0_ok 1 (by decide)⟩⟩
theorem fl_11_260 : zFL RX11 260 0 1 := ⟨RX0, TX0, 9, tyX0, ck_0, by decide, rfl, Or.inl (gt_t1 236 (by decide +kernel) rfl)⟩
theorem pl_11_260 : zPL RX11 260 0 1 0 := ⟨fl_11_260, fun C T N h => by cases (show vwCl[0]? = some (RX0, TX0, 9) from rfl).symm.trans h; exact ⟨rfl, tyX0_ok 1 (by decide)⟩⟩
theorem fl_4_188 : zFL RX4 188 0 1 := ⟨RX0, TX0, 9, tyX0, ck_0, by decide, rfl, Or.inl (gt_t1 237 (by decide +kernel) rfl)⟩
theorem pl_4_188 : zPL RX4 188 0 1 0 := ⟨fl_4_188, fun C T N h => by cases (show vwCl[0]? = some (RX0, TX0, 9) from rfl).symm.trans h; exact ⟨rfl, tyX0_ok 1 (by decide)⟩⟩
theorem fl_0_9 : zFL RX0 9 0 2 := ⟨RX0, TX0, 9, tyX0, ck_0, by decide, rfl, Or.inl (gt_t1 238 (by decide +kernel) rfl)⟩
theorem fl_4_95 : zFL RX4 95 0 2 := ⟨RX0, TX0, 9, tyX0, ck_0, by decide, rfl, Or.inl (gt_t1 239 (by decide +kernel) rfl)⟩
theorem fl_11_196 : zFL RX11 196 0 2 := ⟨RX0, TX0, 9, tyX0, ck_0, by decide, rfl, Or.inl (gt_t2 0 (by decide +kernel) rfl)⟩
theorem fl_0_15 : zFL RX0 15 0 3 := ⟨RX0, TX0, 9, tyX0, ck_0, by decide, rfl, Or.inl (gt_t2 1 (by decide +kernel) rfl)⟩
theorem fl_4_98 : zFL RX4 98 0 3 := ⟨RX0, TX0, 9, tyX0, ck_0, by decide, rfl, Or.inl (gt_t2 2 (by decide +kernel) rfl)⟩
theorem fl_11_199 : zFL RX11 199 0 3 := ⟨RX0, TX0, 9, tyX0, ck_0, by decide, rfl, Or.inl (gt_t2 3 (by decide +kernel) rfl)⟩
theorem fl_0_18 : zFL RX0 18 0 4 := ⟨RX0, TX0, 9, tyX0, ck_0, by decide, rfl, Or.inl (gt_t2 4 (by decide +kernel) rfl)⟩
theorem fl_4_101 : zFL RX4 101 0 4 := ⟨RX0, TX0, 9, tyX0, ck_0, by decide, rfl, Or.inl (gt_t2 5 (by decide +kernel) rfl)⟩
theorem fl_11_202 : zFL RX11 202 0 4 := ⟨RX0, TX0, 9, tyX0, ck_0, by decide, rfl, Or.inl (gt_t2 6 (by decide +kernel) rfl)⟩
theorem fl_0_21 : zFL RX0 21 0 5 := ⟨RX0, TX0, 9, tyX0, ck_0, by decide, rfl, Or.inl (gt_t2 7 (by decide +kernel) rfl)⟩
theorem fl_4_102 : zFL RX4 102 0 5 := ⟨RX0, TX0, 9, tyX0, ck_0, by decide, rfl, Or.inl (gt_t2 8 (by decide +kernel) rfl)⟩
theorem fl_11_205 : zFL RX11 205 0 5 := ⟨RX0, TX0, 9, tyX0, ck_0, by decide, rfl, Or.inl (gt_t2 9 (by decide +kernel) rfl)⟩
theorem fl_0_24 : zFL RX0 24 0 6 := ⟨RX0, TX0, 9, tyX0, ck_0, by decide, rfl, Or.inl (gt_t2 10 (by decide +kernel) rfl)⟩
theorem fl_4_103 : zFL RX4 103 0 6 := ⟨RX0, TX0, 9, tyX0, ck_0, by decide, rfl, Or.inl (gt_t2 11 (by decide +kernel) rfl)⟩
theorem fl_11_206 : zFL RX11 206 0 6 := ⟨RX0, TX0, 9, tyX0, ck_0, by decide, rfl, Or.inl (gt_t2 12 (by decide +kernel) rfl)⟩
theorem fl_0_27 : zFL RX0 27 0 7 := ⟨RX0, TX0, 9, tyX0, ck_0, by decide, rfl, Or.inl (gt_t2 13 (by decide +kernel) rfl)⟩
theorem fl_4_147 : zFL RX4 147 0 7 := ⟨RX0, TX0, 9, tyX0, ck_0, by decide, rfl, Or.inl (gt_t2 14 (by decide +kernel) rfl)⟩
theorem fl_0_30 : zFL RX0 30 0 8 := ⟨RX0, TX0, 9, tyX0, ck_0, by decide, rfl, Or.inl (gt_t2 15 (by decide +kernel) rfl)⟩
theorem fl_4_181 : zFL RX4 181 0 8 := ⟨RX0, TX0, 9, tyX0, ck_0, by decide, rfl, Or.inl (gt_t2 16 (by decide +kernel) rfl)⟩
theorem fl_6_24 : zFL RX6 24 6 0 := ⟨RX6, TX6, 6, tyX6, ck_6, by decide, rfl, Or.inl (gt_t2 42 (by decide +kernel) rfl)⟩
theorem pl_6_24 : zPL RX6 24 6 0 0 := ⟨fl_6_24, fun C T N h => by cases (show vwCl[6]? = some (RX6, TX6, 6) from rfl).symm.trans h; exact ⟨rfl, tyX6_ok 0 (by decide)⟩⟩
theorem fl_11_358 : zFL RX11 358 6 0 := ⟨RX6, TX6, 6, tyX6, ck_6, by decide, rfl, Or.inl (gt_t2 43 (by decide +kernel) rfl)⟩
theorem pl_11_358 : zPL RX11 358 6 0 0 := ⟨fl_11_358, fun C T N h => by cases (show vwCl[6]? = some (RX6, TX6, 6) from rfl).symm.trans h; exact ⟨rfl, tyX6_ok 0 (by decide)⟩⟩
theorem fl_6_28 : zFL RX6 28 6 1 := ⟨RX6, TX6, 6, tyX6, ck_6, by decide, rfl, Or.inl (gt_t2 44 (by decide +kernel) rfl)⟩
theorem pl_6_28 : zPL RX6 28 6 1 0 := ⟨fl_6_28, fun C T N h => by cases (show vwCl[6]? = some (RX6, TX6, 6) from rfl).symm.trans h; exact ⟨rfl, tyX6_ok 1 (by decide)⟩⟩
theorem fl_6_11 : zFL RX6 11 6 2 := ⟨RX6, TX6, 6, tyX6, ck_6, by decide, rfl, Or.inl (gt_t2 45 (by decide +kernel) rfl)⟩
theorem fl_6_15 : zFL RX6 15 6 3 := ⟨RX6, TX6, 6, tyX6, ck_6, by decide, rfl, Or.inl (gt_t2 46 (by decide +kernel) rfl)⟩
theorem fl_6_18 : zFL RX6 18 6 4 := ⟨RX6, TX6, 6, tyX6, ck_6, by decide, rfl, Or.inl (gt_t2 47 (by decide +kernel) rfl)⟩
theorem fl_6_21 : zFL RX6 21 6 5 := ⟨RX6, TX6, 6, tyX6, ck_6, by decide, rfl, Or.inl (gt_t2 48 (by decide +kernel) rfl)⟩
theorem fl_4_51 : zFL RX4 51 4 0 := ⟨RX4, TX4, 17, tyX4, ck_4, by decide, rfl, Or.inl (gt_t2 69 (by decide +kernel) rfl)⟩
theorem fl_2_42 : zFL RX2 42 4 0 := ⟨RX4, TX4, 17, tyX4, ck_4, by decide, rfl, Or.inr ⟨"TruthCord", nw_t2 70 (by decide +kernel) rfl⟩⟩
theorem fl_10_32 : zFL RX10 32 4 0 := ⟨RX4, TX4, 17, tyX4, ck_4, by decide, rfl, Or.inr ⟨"TruthCord", nw_t2 71 (by decide +kernel) rfl⟩⟩
theorem fl_6_96 : zFL RX6 96 4 0 := ⟨RX4, TX4, 17, tyX4, ck_4, by decide, rfl, Or.inr ⟨"TruthCord", nw_t2 72 (by decide +kernel) rfl⟩⟩
theorem fl_4_55 : zFL RX4 55 4 1 := ⟨RX4, TX4, 17, tyX4, ck_4, by decide, rfl, Or.inl (gt_t2 73 (by decide +kernel) rfl)⟩
theorem fl_4_9 : zFL RX4 9 4 2 := ⟨RX4, TX4, 17, tyX4, ck_4, by decide, rfl, Or.inl (gt_t2 74 (by decide +kernel) rfl)⟩
theorem fl_2_82 : zFL RX2 82 4 2 := ⟨RX4, TX4, 17, tyX4, ck_4, by decide, rfl, Or.inl (gt_t2 75 (by decide +kernel) rfl)⟩
theorem fl_11_168 : zFL RX11 168 4 2 := ⟨RX4, TX4, 17, tyX4, ck_4, by decide, rfl, Or.inl (gt_t2 76 (by decide +kernel) rfl)⟩
theorem fl_4_15 : zFL RX4 15 4 3 := ⟨RX4, TX4, 17, tyX4, ck_4, by decide, rfl, Or.inl (gt_t2 77 (by decide +kernel) rfl)⟩
theorem fl_4_18 : zFL RX4 18 4 4 := ⟨RX4, TX4, 17, tyX4, ck_4, by decide, rfl, Or.inl (gt_t2 78 (by decide +kernel) rfl)⟩
theorem fl_4_21 : zFL RX4 21 4 5 := ⟨RX4, TX4, 17, tyX4, ck_4, by decide, rfl, Or.inl (gt_t2 79 (by decide +kernel) rfl)⟩
theorem fl_11_300 : zFL RX11 300 4 5 := ⟨RX4, TX4, 17, tyX4, ck_4, by decide, rfl, Or.inl (gt_t2 80 (by decide +kernel) rfl)⟩
theorem fl_4_24 : zFL RX4 24 4 6 := ⟨RX4, TX4, 17, tyX4, ck_4, by decide, rfl, Or.inl (gt_t2 81 (by decide +kernel) rfl)⟩
theorem fl_11_209 : zFL RX11 209 4 6 := ⟨RX4, TX4, 17, tyX4, ck_4, by decide, rfl, Or.inl (gt_t2 82 (by decide +kernel) rfl)⟩
theorem fl_4_78 : zFL RX4 78 4 7 := ⟨RX4, TX4, 17, tyX4, ck_4, by decide, rfl, Or.inl (gt_t2 83 (by decide +kernel) rfl)⟩
theorem pl_4_78 : zPL RX4 78 4 7 0 := ⟨fl_4_78, fun C T N h => by cases (show vwCl[4]? = some (RX4, TX4, 17) from rfl).symm.trans h; exact ⟨rfl, tyX4_ok 7 (by decide)⟩⟩
theorem fl_4_81 : zFL RX4 81 4 8 := ⟨RX4, TX4, 17, tyX4, ck_4, by decide, rfl, Or.inl (gt_t2 84 (by decide +kernel) rfl)⟩
theorem pl_4_81 : zPL RX4 81 4 8 0 := ⟨fl_4_81, fun C T N h => by cases (show vwCl[4]? = some (RX4, TX4, 17) from rfl).symm.trans h; exact ⟨rfl, tyX4_ok 8 (by decide)⟩⟩
theorem fl_2_78 : zFL RX2 78 4 8 := ⟨RX4, TX4, 17, tyX4, ck_4, by decide, rfl, Or.inl (gt_t2 85 (by decide +kernel) rfl)⟩
theorem pl_2_78 : zPL RX2 78 4 8 0 := ⟨fl_2_78, fun C T N h => by cases (show vwCl[4]? = some (RX4, TX4, 17) from rfl).symm.trans h; exact ⟨rfl, tyX4_ok 8 (by decide)⟩⟩
theorem fl_10_60 : zFL RX10 60 4 8 := ⟨RX4, TX4, 17, tyX4, ck_4, by decide, rfl, Or.inl (gt_t2 86 (by decide +kernel) rfl)⟩
theorem pl_10_60 : zPL RX10 60 4 8 0 := ⟨fl_10_60, fun C T N h => by cases (show vwCl[4]? = some (RX4, TX4, 17) from rfl).symm.trans h; exact ⟨rfl, tyX4_ok 8 (by decide)⟩⟩
theorem fl_11_212 : zFL RX11 212 4 8 := ⟨RX4, TX4, 17, tyX4, ck_4, by decide, rfl, Or.inl (gt_t2 87 (by decide +kernel) rfl)⟩
theorem pl_11_212 : zPL RX11 212 4 8 0 := ⟨fl_11_212, fun C T N h => by cases (show vwCl[4]? = some (RX4, TX4, 17) from rfl).symm.trans h; exact ⟨rfl, tyX4_ok 8 (by decide)⟩⟩
theorem fl_4_27 : zFL RX4 27 4 9 := ⟨RX4, TX4, 17, tyX4, ck_4, by decide, rfl, Or.inl (gt_t2 88 (by decide +kernel) rfl)⟩
theorem fl_2_85 : zFL RX2 85 4 9 := ⟨RX4, TX4, 17, tyX4, ck_4, by decide, rfl, Or.inl (gt_t2 89 (by decide +kernel) rfl)⟩
theorem fl_10_63 : zFL RX10 63 4 9 := ⟨RX4, TX4, 17, tyX4, ck_4, by decide, rfl, Or.inl (gt_t2 90 (by decide +kernel) rfl)⟩
theorem fl_11_218 : zFL RX11 218 4 9 := ⟨RX4, TX4, 17, tyX4, ck_4, by decide, rfl, Or.inl (gt_t2 91 (by decide +kernel) rfl)⟩
theorem fl_4_30 : zFL RX4 30 4 10 := ⟨RX4, TX4, 17, tyX4, ck_4, by decide, rfl, Or.inl (gt_t2 92 (by decide +kernel) rfl)⟩
theorem fl_11_221 : zFL RX11 221 4 10 := ⟨RX4, TX4, 17, tyX4, ck_4, by decide, rfl, Or.inl (gt_t2 93 (by decide +kernel) rfl)⟩
theorem fl_4_33 : zFL RX4 33 4 11 := ⟨RX4, TX4, 17, tyX4, ck_4, by decide, rfl, Or.inl (gt_t2 94 (by decide +kernel) rfl)⟩
theorem fl_11_222 : zFL RX11 222 4 11 := ⟨RX4, TX4, 17, tyX4, ck_4, by decide, rfl, Or.inl (gt_t2 95 (by decide +kernel) rfl)⟩
theorem fl_4_36 : zFL RX4 36 4 12 := ⟨RX4, TX4, 17, tyX4, ck_4, by decide, rfl, Or.inl (gt_t2 96 (by decide +kernel) rfl)⟩
theorem fl_11_223 : zFL RX11 223 4 12 := ⟨RX4, TX4, 17, tyX4, ck_4, by decide, rfl, Or.inl (gt_t2 97 (by decide +kernel) rfl)⟩
theorem fl_4_39 : zFL RX4 39 4 13 := ⟨RX4, TX4, 17, tyX4, ck_4, by decide, rfl, Or.inl (gt_t2 98 (by decide +kernel) rfl)⟩
theorem fl_2_79 : zFL RX2 79 4 13 := ⟨RX4, TX4, 17, tyX4, ck_4, by decide, rfl, Or.inl (gt_t2 99 (by decide +kernel) rfl)⟩
theorem fl_10_66 : zFL RX10 66 4 13 := ⟨RX4, TX4, 17, tyX4, ck_4, by decide, rfl, Or.inl (gt_t2 100 (by decide +kernel) rfl)⟩
theorem fl_11_226 : zFL RX11 226 4 13 := ⟨RX4, TX4, 17, tyX4, ck_4, by decide, rfl, Or.inl (gt_t2 101 (by decide +kernel) rfl)⟩
theorem fl_4_42 : zFL RX4 42 4 14 := ⟨RX4, TX4, 17, tyX4, ck_4, by decide, rfl, Or.inl (gt_t2 102 (by decide +kernel) rfl)⟩
theorem fl_11_228 : zFL RX11 228 4 14 := ⟨RX4, TX4, 17, tyX4, ck_4, by decide, rfl, Or.inl (gt_t2 103 (by decide +kernel) rfl)⟩
theorem fl_4_45 : zFL RX4 45 4 15 := ⟨RX4, TX4, 17, tyX4, ck_4, by decide, rfl, Or.inl (gt_t2 104 (by decide +kernel) rfl)⟩
theorem fl_11_231 : zFL RX11 231 4 15 := ⟨RX4, TX4, 17, tyX4, ck_4, by decide, rfl, Or.inl (gt_t2 105 (by decide +kernel) rfl)⟩
theorem fl_4_48 : zFL RX4 48 4 16 := ⟨RX4, TX4, 17, tyX4, ck_4, by decide, rfl, Or.inl (gt_t2 106 (by decide +kernel) rfl)⟩
theorem fl_11_234 : zFL RX11 234 4 16 := ⟨RX4, TX4, 17, tyX4, ck_4, by decide, rfl, Or.inl (gt_t2 107 (by decide +kernel) rfl)⟩
theorem fl_2_22 : zFL RX2 22 2 0 := ⟨RX2, TX2, 7, tyX2, ck_2, by decide, rfl, Or.inl (gt_t2 149 (by decide +kernel) rfl)⟩
theorem pl_2_22 : zPL RX2 22 2 0 3 := ⟨fl_2_22, fun C T N h => by cases (show vwCl[2]? = some (RX2, TX2, 7) from rfl).symm.trans h; exact ⟨rfl, tyX2_ok 0 (by decide)⟩⟩
theorem fl_11_385 : zFL RX11 385 2 0 := ⟨RX2, TX2, 7, tyX2, ck_2, by decide, rfl, Or.inl (gt_t2 150 (by decide +kernel) rfl)⟩
theorem pl_11_385 : zPL RX11 385 2 0 3 := ⟨fl_11_385, fun C T N h => by cases (show vwCl[2]? = some (RX2, TX2, 7) from rfl).symm.trans h; exact ⟨rfl, tyX2_ok 0 (by decide)⟩⟩
theorem fl_2_30 : zFL RX2 30 2 1 := ⟨RX2, TX2, 7, tyX2, ck_2, by decide, rfl, Or.inl (gt_t2 151 (by decide +kernel) rfl)⟩
theorem pl_2_30 : zPL RX2 30 2 1 0 := ⟨fl_2_30, fun C T N h => by cases (show vwCl[2]? = some (RX2, TX2, 7) from rfl).symm.trans h; exact ⟨rfl, tyX2_ok 1 (by decide)⟩⟩
theorem fl_11_273 : zFL RX11 273 2 1 := ⟨RX2, TX2, 7, tyX2, ck_2, by decide, rfl, Or.inl (gt_t2 152 (by decide +kernel) rfl)⟩
theorem pl_11_273 : zPL RX11 273 2 1 0 := ⟨fl_11_273, fun C T N h => by cases (show vwCl[2]? = some (RX2, TX2, 7) from rfl).symm.trans h; exact ⟨rfl, tyX2_ok 1 (by decide)⟩⟩
theorem fl_2_108 : zFL RX2 108 2 2 := ⟨RX2, TX2, 7, tyX2, ck_2, by decide, rfl, Or.inl (gt_t2 153 (by decide +kernel) rfl)⟩
theorem pl_2_108 : zPL RX2 108 2 2 0 := ⟨fl_2_108, fun C T N h => by cases (show vwCl[2]? = some (RX2, TX2, 7) from rfl).symm.trans h; exact ⟨rfl, tyX2_ok 2 (by decide)⟩⟩
theorem fl_11_267 : zFL RX11 267 2 2 := ⟨RX2, TX2, 7, tyX2, ck_2, by decide, rfl, Or.inl (gt_t2 154 (by decide +kernel) rfl)⟩
theorem pl_11_267 : zPL RX11 267 2 2 0 := ⟨fl_11_267, fun C T N h => by cases (show vwCl[2]? = some (RX2, TX2, 7) from rfl).symm.trans h; exact ⟨rfl, tyX2_ok 2 (by decide)⟩⟩
theorem fl_2_111 : zFL RX2 111 2 3 := ⟨RX2, TX2, 7, tyX2, ck_2, by decide, rfl, Or.inl (gt_t2 155 (by decide +kernel) rfl)⟩
theorem pl_2_111 : zPL RX2 111 2 3 0 := ⟨fl_2_111, fun C T N h => by cases (show vwCl[2]? = some (RX2, TX2, 7) from rfl).symm.trans h; exact ⟨rfl, tyX2_ok 3 (by decide)⟩⟩
theorem fl_11_270 : zFL RX11 270 2 3 := ⟨RX2, TX2, 7, tyX2, ck_2, by decide, rfl, Or.inl (gt_t2 156 (by decide +kernel) rfl)⟩
theorem pl_11_270 : zPL RX11 270 2 3 0 := ⟨fl_11_270, fun C T N h => by cases (show vwCl[2]? = some (RX2, TX2, 7) from rfl).symm.trans h; exact ⟨rfl, tyX2_ok 3 (by decide)⟩⟩
theorem fl_2_9 : zFL RX2 9 2 4 := ⟨RX2, TX2, 7, tyX2, ck_2, by decide, rfl, Or.inl (gt_t2 157 (by decide +kernel) rfl)⟩
theorem fl_11_274 : zFL RX11 274 2 4 := ⟨RX2, TX2, 7, tyX2, ck_2, by decide, rfl, Or.inl (gt_t2 158 (by decide +kernel) rfl)⟩
theorem fl_2_15 : zFL RX2 15 2 5 := ⟨RX2, TX2, 7, tyX2, ck_2, by decide, rfl, Or.inl (gt_t2 159 (by decide +kernel) rfl)⟩
theorem fl_2_18 : zFL RX2 18 2 6 := ⟨RX2, TX2, 7, tyX2, ck_2, by decide, rfl, Or.inl (gt_t2 160 (by decide +kernel) rfl)⟩
theorem fl_10_9 : zFL RX10 9 10 0 := ⟨RX10, TX10, 5, tyX10, ck_10, by decide, rfl, Or.inl (gt_t2 183 (by decide +kernel) rfl)⟩
theorem fl_10_15 : zFL RX10 15 10 1 := ⟨RX10, TX10, 5, tyX10, ck_10, by decide, rfl, Or.inl (gt_t2 184 (by decide +kernel) rfl)⟩
theorem fl_10_18 : zFL RX10 18 10 2 := ⟨RX10, TX10, 5, tyX10, ck_10, by decide, rfl, Or.inl (gt_t2 185 (by decide +kernel) rfl)⟩
theorem fl_10_21 : zFL RX10 21 10 3 := ⟨RX10, TX10, 5, tyX10, ck_10, by decide, rfl, Or.inl (gt_t2 186 (by decide +kernel) rfl)⟩
theorem fl_10_24 : zFL RX10 24 10 4 := ⟨RX10, TX10, 5, tyX10, ck_10, by decide, rfl, Or.inl (gt_t2 187 (by decide +kernel) rfl)⟩
theorem fl_8_33 : zFL RX8 33 8 0 := ⟨RX8, TX8, 7, tyX8, ck_8, by decide, rfl, Or.inl (gt_t2 205 (by decide +kernel) rfl)⟩
theorem pl_8_33 : zPL RX8 33 8 0 0 := ⟨fl_8_33, fun C T N h => by cases (show vwCl[8]? = some (RX8, TX8, 7) from rfl).symm.trans h; exact ⟨rfl, tyX8_ok 0 (by decide)⟩⟩
theorem fl_8_9 : zFL RX8 9 8 1 := ⟨RX8, TX8, 7, tyX8, ck_8, by decide, rfl, Or.inl (gt_t2 206 (by decide +kernel) rfl)⟩
theorem fl_8_15 : zFL RX8 15 8 2 := ⟨RX8, TX8, 7, tyX8, ck_8, by decide, rfl, Or.inl (gt_t2 207 (by decide +kernel) rfl)⟩
theorem fl_8_18 : zFL RX8 18 8 3 := ⟨RX8, TX8, 7, tyX8, ck_8, by decide, rfl, Or.inl (gt_t2 208 (by decide +kernel) rfl)⟩
theorem fl_8_21 : zFL RX8 21 8 4 := ⟨RX8, TX8, 7, tyX8, ck_8, by decide, rfl, Or.inl (gt_t2 209 (by decide +kernel) rfl)⟩
theorem fl_8_76 : zFL RX8 76 8 5 := ⟨RX8, TX8, 7, tyX8, ck_8, by decide, rfl, Or.inl (gt_t2 210 (by decide +kernel) rfl)⟩
theorem pl_8_76 : zPL RX8 76 8 5 0 := ⟨fl_8_76, fun C T N h => by cases (show vwCl[8]? = some (RX8, TX8, 7) from rfl).symm.trans h; exact ⟨rfl, tyX8_ok 5 (by decide)⟩⟩
theorem fl_11_312 : zFL RX11 312 8 5 := ⟨RX8, TX8, 7, tyX8, ck_8, by decide, rfl, Or.inl (gt_t2 211 (by decide +kernel) rfl)⟩
theorem pl_11_312 : zPL RX11 312 8 5 0 := ⟨fl_11_312, fun C T N h => by cases (show vwCl[8]? = some (RX8, TX8, 7) from rfl).symm.trans h; exact ⟨rfl, tyX8_ok 5 (by decide)⟩⟩
theorem fl_8_24 : zFL RX8 24 8 6 := ⟨RX8, TX8, 7, tyX8, ck_8, by decide, rfl, Or.inl (gt_t2 212 (by decide +kernel) rfl)⟩
theorem fl_11_315 : zFL RX11 315 8 6 := ⟨RX8, TX8, 7, tyX8, ck_8, by decide, rfl, Or.inl (gt_t2 213 (by decide +kernel) rfl)⟩
theorem fl_1_7 : zFL RX1 7 1 0 := ⟨RX1, TX1, 1, tyX1, ck_1, by decide, rfl, Or.inl (gt_t2 235 (by decide +kernel) rfl)⟩
theorem pl_1_7 : zPL RX1 7 1 0 0 := ⟨fl_1_7, fun C T N h => by cases (show vwCl[1]? = some (RX1, TX1, 1) from rfl).symm.trans h; exact ⟨rfl, tyX1_ok 0 (by decide)⟩⟩
theorem fl_11_186 : zFL RX11 186 1 0 := ⟨RX1, TX1, 1, tyX1, ck_1, by decide, rfl, Or.inl (gt_t2 236 (by decide +kernel) rfl)⟩
theorem pl_11_186 : zPL RX11 186 1 0 0 := ⟨fl_11_186, fun C T N h => by cases (show vwCl[1]? = some (RX1, TX1, 1) from rfl).symm.trans h; exact ⟨rfl, tyX1_ok 0 (by decide)⟩⟩
theorem fl_3_40 : zFL RX3 40 3 0 := ⟨RX3, TX3, 4, tyX3, ck_3, by decide, rfl, Or.inl (gt_t3 13 (by decide +kernel) rfl)⟩
theorem pl_3_40 : zPL RX3 40 3 0 3 := ⟨fl_3_40, fun C T N h => by cases (show vwCl[3]? = some (RX3, TX3, 4) from rfl).symm.trans h; exact ⟨rfl, tyX3_ok 0 (by decide)⟩⟩
theorem fl_11_369 : zFL RX11 369 3 0 := ⟨RX3, TX3, 4, tyX3, ck_3, by decide, rfl, Or.inl (gt_t3 14 (by decide +kernel) rfl)⟩
theorem pl_11_369 : zPL RX11 369 3 0 3 := ⟨fl_11_369, fun C T N h => by cases (show vwCl[3]? = some (RX3, TX3, 4) from rfl).symm.trans h; exact ⟨rfl, tyX3_ok 0 (by decide)⟩⟩
theorem fl_3_10 : zFL RX3 10 3 1 := ⟨RX3, TX3, 4, tyX3, ck_3, by decide, rfl, Or.inl (gt_t3 15 (by decide +kernel) rfl)⟩
theorem fl_11_373 : zFL RX11 373 3 1 := ⟨RX3, TX3, 4, tyX3, ck_3, by decide, rfl, Or.inl (gt_t3 16 (by decide +kernel) rfl)⟩
theorem fl_3_19 : zFL RX3 19 3 2 := ⟨RX3, TX3, 4, tyX3, ck_3, by decide, rfl, Or.inl (gt_t3 17 (by decide +kernel) rfl)⟩
theorem fl_11_374 : zFL RX11 374 3 2 := ⟨RX3, TX3, 4, tyX3, ck_3, by decide, rfl, Or.inl (gt_t3 18 (by decide +kernel) rfl)⟩
theorem fl_3_26 : zFL RX3 26 3 3 := ⟨RX3, TX3, 4, tyX3, ck_3, by decide, rfl, Or.inl (gt_t3 19 (by decide +kernel) rfl)⟩
theorem fl_11_375 : zFL RX11 375 3 3 := ⟨RX3, TX3, 4, tyX3, ck_3, by decide, rfl, Or.inl (gt_t3 20 (by decide +kernel) rfl)⟩
theorem fl_11_12 : zFL RX11 12 11 0 := ⟨RX11, TX11, 17, tyX11, ck_11, by decide, rfl, Or.inl (gt_t3 30 (by decide +kernel) rfl)⟩
theorem fl_11_21 : zFL RX11 21 11 1 := ⟨RX11, TX11, 17, tyX11, ck_11, by decide, rfl, Or.inl (gt_t3 31 (by decide +kernel) rfl)⟩
theorem fl_11_28 : zFL RX11 28 11 2 := ⟨RX11, TX11, 17, tyX11, ck_11, by decide, rfl, Or.inl (gt_t3 32 (by decide +kernel) rfl)⟩
theorem fl_11_32 : zFL RX11 32 11 3 := ⟨RX11, TX11, 17, tyX11, ck_11, by decide, rfl, Or.inl (gt_t3 33 (by decide +kernel) rfl)⟩
theorem fl_11_38 : zFL RX11 38 11 4 := ⟨RX11, TX11, 17, tyX11, ck_11, by decide, rfl, Or.inl (gt_t3 34 (by decide +kernel) rfl)⟩
theorem fl_11_42 : zFL RX11 42 11 5 := ⟨RX11, TX11, 17, tyX11, ck_11, by decide, rfl, Or.inl (gt_t3 35 (by decide +kernel) rfl)⟩
theorem fl_11_48 : zFL RX11 48 11 6 := ⟨RX11, TX11, 17, tyX11, ck_11, by decide, rfl, Or.inl (gt_t3 36 (by decide +kernel) rfl)⟩
theorem fl_11_52 : zFL RX11 52 11 7 := ⟨RX11, TX11, 17, tyX11, ck_11, by decide, rfl, Or.inl (gt_t3 37 (by decide +kernel) rfl)⟩
theorem fl_11_60 : zFL RX11 60 11 8 := ⟨RX11, TX11, 17, tyX11, ck_11, by decide, rfl, Or.inl (gt_t3 38 (by decide +kernel) rfl)⟩
theorem fl_11_64 : zFL RX11 64 11 9 := ⟨RX11, TX11, 17, tyX11, ck_11, by decide, rfl, Or.inl (gt_t3 39 (by decide +kernel) rfl)⟩
theorem fl_11_70 : zFL RX11 70 11 10 := ⟨RX11, TX11, 17, tyX11, ck_11, by decide, rfl, Or.inl (gt_t3 40 (by decide +kernel) rfl)⟩
theorem fl_11_77 : zFL RX11 77 11 11 := ⟨RX11, TX11, 17, tyX11, ck_11, by decide, rfl, Or.inl (gt_t3 41 (by decide +kernel) rfl)⟩
theorem fl_11_84 : zFL RX11 84 11 12 := ⟨RX11, TX11, 17, tyX11, ck_11, by decide, rfl, Or.inl (gt_t3 42 (by decide +kernel) rfl)⟩
theorem fl_11_91 : zFL RX11 91 11 13 := ⟨RX11, TX11, 17, tyX11, ck_11, by decide, rfl, Or.inl (gt_t3 43 (by decide +kernel) rfl)⟩
theorem fl_11_95 : zFL RX11 95 11 14 := ⟨RX11, TX11, 17, tyX11, ck_11, by decide, rfl, Or.inl (gt_t3 44 (by decide +kernel) rfl)⟩
theorem fl_11_102 : zFL RX11 102 11 15 := ⟨RX11, TX11, 17, tyX11, ck_11, by decide, rfl, Or.inl (gt_t3 45 (by decide +kernel) rfl)⟩
theorem fl_11_106 : zFL RX11 106 11 16 := ⟨RX11, TX11, 17, tyX11, ck_11, by decide, rfl, Or.inl (gt_t3 46 (by decide +kernel) rfl)⟩
theorem pl_11_106 : zPL RX11 106 11 16 0 := ⟨fl_11_106, fun C T N h => by cases (show vwCl[11]? = some (RX11, TX11, 17) from rfl).symm.trans h; exact ⟨rfl, tyX11_ok 16 (by decide)⟩⟩
theorem sl_9_142 : Cond.fieldLinkNest RX9 142 RX11 (zsetn 1) "[I" "TruthCord" ∈ nw := nw_t3 191 (by decide +kernel) rfl
theorem sl_9_145 : Cond.fieldLinkNest RX9 145 RX11 (zsetn 2) "[I" "TruthCord" ∈ nw := nw_t3 193 (by decide +kernel) rfl
theorem fl_12_1 : zFL RX12 1 12 0 := ⟨RX12, TX12, 72, tyX12, ck_12, by decide, rfl, Or.inl (gt_t6 153 (by decide +kernel) rfl)⟩
theorem pl_12_1 : zPL RX12 1 12 0 0 := ⟨fl_12_1, fun C T N h => by cases (show vwCl[12]? = some (RX12, TX12, 72) from rfl).symm.trans h; exact ⟨rfl, tyX12_ok 0 (by decide)⟩⟩
theorem fl_12_14 : zFL RX12 14 12 1 := ⟨RX12, TX12, 72, tyX12, ck_12, by decide, rfl, Or.inl (gt_t6 154 (by decide +kernel) rfl)⟩
theorem fl_12_7 : zFL RX12 7 12 2 := ⟨RX12, TX12, 72, tyX12, ck_12, by decide, rfl, Or.inl (gt_t6 155 (by decide +kernel) rfl)⟩
theorem pl_12_7 : zPL RX12 7 12 2 0 := ⟨fl_12_7, fun C T N h => by cases (show vwCl[12]? = some (RX12, TX12, 72) from rfl).symm.trans h; exact ⟨rfl, tyX12_ok 2 (by decide)⟩⟩
theorem fl_12_18 : zFL RX12 18 12 3 := ⟨RX12, TX12, 72, tyX12, ck_12, by decide, rfl, Or.inl (gt_t6 156 (by decide +kernel) rfl)⟩
theorem pl_12_18 : zPL RX12 18 12 3 0 := ⟨fl_12_18, fun C T N h => by cases (show vwCl[12]? = some (RX12, TX12, 72) from rfl).symm.trans h; exact ⟨rfl, tyX12_ok 3 (by decide)⟩⟩
theorem fl_12_21 : zFL RX12 21 12 4 := ⟨RX12, TX12, 72, tyX12, ck_12, by decide, rfl, Or.inl (gt_t6 157 (by decide +kernel) rfl)⟩
theorem pl_12_21 : zPL RX12 21 12 4 0 := ⟨fl_12_21, fun C T N h => by cases (show vwCl[12]? = some (RX12, TX12, 72) from rfl).symm.trans h; exact ⟨rfl, tyX12_ok 4 (by decide)⟩⟩
theorem fl_12_24 : zFL RX12 24 12 5 := ⟨RX12, TX12, 72, tyX12, ck_12, by decide, rfl, Or.inl (gt_t6 158 (by decide +kernel) rfl)⟩
theorem pl_12_24 : zPL RX12 24 12 5 0 := ⟨fl_12_24, fun C T N h => by cases (show vwCl[12]? = some (RX12, TX12, 72) from rfl).symm.trans h; exact ⟨rfl, tyX12_ok 5 (by decide)⟩⟩
theorem fl_12_33 : zFL RX12 33 12 6 := ⟨RX12, TX12, 72, tyX12, ck_12, by decide, rfl, Or.inl (gt_t6 159 (by decide +kernel) rfl)⟩
theorem fl_12_37 : zFL RX12 37 12 7 := ⟨RX12, TX12, 72, tyX12, ck_12, by decide, rfl, Or.inl (gt_t6 160 (by decide +kernel) rfl)⟩
theorem fl_12_40 : zFL RX12 40 12 8 := ⟨RX12, TX12, 72, tyX12, ck_12, by decide, rfl, Or.inl (gt_t6 161 (by decide +kernel) rfl)⟩
theorem fl_12_43 : zFL RX12 43 12 9 := ⟨RX12, TX12, 72, tyX12, ck_12, by decide, rfl, Or.inl (gt_t6 162 (by decide +kernel) rfl)⟩
theorem fl_12_47 : zFL RX12 47 12 10 := ⟨RX12, TX12, 72, tyX12, ck_12, by decide, rfl, Or.inl (gt_t6 163 (by decide +kernel) rfl)⟩
theorem fl_12_222 : zFL RX12 222 12 11 := ⟨RX12, TX12, 72, tyX12, ck_12, by decide, rfl, Or.inl (gt_t6 164 (by decide +kernel) rfl)⟩
theorem pl_12_222 : zPL RX12 222 12 11 0 := ⟨fl_12_222, fun C T N h => by cases (show vwCl[12]? = some (RX12, TX12, 72) from rfl).symm.trans h; exact ⟨rfl, tyX12_ok 11 (by decide)⟩⟩
theorem fl_12_216 : zFL RX12 216 12 12 := ⟨RX12, TX12, 72, tyX12, ck_12, by decide, rfl, Or.inl (gt_t6 165 (by decide +kernel) rfl)⟩
theorem pl_12_216 : zPL RX12 216 12 12 0 := ⟨fl_12_216, fun C T N h => by cases (show vwCl[12]? = some (RX12, TX12, 72) from rfl).symm.trans h; exact ⟨rfl, tyX12_ok 12 (by decide)⟩⟩
theorem fl_12_219 : zFL RX12 219 12 13 := ⟨RX12, TX12, 72, tyX12, ck_12, by decide, rfl, Or.inl (gt_t6 166 (by decide +kernel) rfl)⟩
theorem pl_12_219 : zPL RX12 219 12 13 0 := ⟨fl_12_219, fun C T N h => by cases (show vwCl[12]? = some (RX12, TX12, 72) from rfl).symm.trans h; exact ⟨rfl, tyX12_ok 13 (by decide)⟩⟩
theorem fl_12_232 : zFL RX12 232 12 14 := ⟨RX12, TX12, 72, tyX12, ck_12, by decide, rfl, Or.inl (gt_t6 167 (by decide +kernel) rfl)⟩
theorem pl_12_232 : zPL RX12 232 12 14 0 := ⟨fl_12_232, fun C T N h => by cases (show vwCl[12]? = some (RX12, TX12, 72) from rfl).symm.trans h; exact ⟨rfl, tyX12_ok 14 (by decide)⟩⟩
theorem fl_12_239 : zFL RX12 239 12 15 := ⟨RX12, TX12, 72, tyX12, ck_12, by decide, rfl, Or.inl (gt_t6 168 (by decide +kernel) rfl)⟩
theorem pl_12_239 : zPL RX12 239 12 15 0 := ⟨fl_12_239, fun C T N h => by cases (show vwCl[12]? = some (RX12, TX12, 72) from rfl).symm.trans h; exact ⟨rfl, tyX12_ok 15 (by decide)⟩⟩
theorem fl_12_242 : zFL RX12 242 12 16 := ⟨RX12, TX12, 72, tyX12, ck_12, by decide, rfl, Or.inl (gt_t6 169 (by decide +kernel) rfl)⟩
theorem pl_12_242 : zPL RX12 242 12 16 0 := ⟨fl_12_242, fun C T N h => by cases (show vwCl[12]? = some (RX12, TX12, 72) from rfl).symm.trans h; exact ⟨rfl, tyX12_ok 16 (by decide)⟩⟩
theorem fl_12_235 : zFL RX12 235 12 17 := ⟨RX12, TX12, 72, tyX12, ck_12, by decide, rfl, Or.inl (gt_t6 170 (by decide +kernel) rfl)⟩
theorem pl_12_235 : zPL RX12 235 12 17 1 := ⟨fl_12_235, fun C T N h => by cases (show vwCl[12]? = some (RX12, TX12, 72) from rfl).symm.trans h; exact ⟨rfl, tyX12_ok 17 (by decide)⟩⟩
theorem fl_12_258 : zFL RX12 258 12 18 := ⟨RX12, TX12, 72, tyX12, ck_12, by decide, rfl, Or.inl (gt_t6 171 (by decide +kernel) rfl)⟩
theorem pl_12_258 : zPL RX12 258 12 18 0 := ⟨fl_12_258, fun C T N h => by cases (show vwCl[12]? = some (RX12, TX12, 72) from rfl).symm.trans h; exact ⟨rfl, tyX12_ok 18 (by decide)⟩⟩
theorem fl_12_307 : zFL RX12 307 12 19 := ⟨RX12, TX12, 72, tyX12, ck_12, by decide, rfl, Or.inl (gt_t6 172 (by decide +kernel) rfl)⟩
theorem pl_12_307 : zPL RX12 307 12 19 0 := ⟨fl_12_307, fun C T N h => by cases (show vwCl[12]? = some (RX12, TX12, 72) from rfl).symm.trans h; exact ⟨rfl, tyX12_ok 19 (by decide)⟩⟩
theorem fl_12_269 : zFL RX12 269 12 20 := ⟨RX12, TX12, 72, tyX12, ck_12, by decide, rfl, Or.inl (gt_t6 173 (by decide +kernel) rfl)⟩
theorem pl_12_269 : zPL RX12 269 12 20 0 := ⟨fl_12_269, fun C T N h => by cases (show vwCl[12]? = some (RX12, TX12, 72) from rfl).symm.trans h; exact ⟨rfl, tyX12_ok 20 (by decide)⟩⟩
theorem fl_12_323 : zFL RX12 323 12 21 := ⟨RX12, TX12, 72, tyX12, ck_12, by decide, rfl, Or.inl (gt_t6 174 (by decide +kernel) rfl)⟩
theorem pl_12_323 : zPL RX12 323 12 21 0 := ⟨fl_12_323, fun C T N h => by cases (show vwCl[12]? = some (RX12, TX12, 72) from rfl).symm.trans h; exact ⟨rfl, tyX12_ok 21 (by decide)⟩⟩
theorem fl_12_326 : zFL RX12 326 12 22 := ⟨RX12, TX12, 72, tyX12, ck_12, by decide, rfl, Or.inl (gt_t6 175 (by decide +kernel) rfl)⟩
theorem pl_12_326 : zPL RX12 326 12 22 0 := ⟨fl_12_326, fun C T N h => by cases (show vwCl[12]? = some (RX12, TX12, 72) from rfl).symm.trans h; exact ⟨rfl, tyX12_ok 22 (by decide)⟩⟩
theorem fl_12_50 : zFL RX12 50 12 23 := ⟨RX12, TX12, 72, tyX12, ck_12, by decide, rfl, Or.inl (gt_t6 176 (by decide +kernel) rfl)⟩
theorem fl_12_53 : zFL RX12 53 12 24 := ⟨RX12, TX12, 72, tyX12, ck_12, by decide, rfl, Or.inl (gt_t6 177 (by decide +kernel) rfl)⟩
theorem fl_12_56 : zFL RX12 56 12 25 := ⟨RX12, TX12, 72, tyX12, ck_12, by decide, rfl, Or.inl (gt_t6 178 (by decide +kernel) rfl)⟩
theorem fl_12_59 : zFL RX12 59 12 26 := ⟨RX12, TX12, 72, tyX12, ck_12, by decide, rfl, Or.inl (gt_t6 179 (by decide +kernel) rfl)⟩
theorem fl_12_347 : zFL RX12 347 12 27 := ⟨RX12, TX12, 72, tyX12, ck_12, by decide, rfl, Or.inl (gt_t6 180 (by decide +kernel) rfl)⟩
theorem pl_12_347 : zPL RX12 347 12 27 0 := ⟨fl_12_347, fun C T N h => by cases (show vwCl[12]? = some (RX12, TX12, 72) from rfl).symm.trans h; exact ⟨rfl, tyX12_ok 27 (by decide)⟩⟩
theorem fl_12_62 : zFL RX12 62 12 28 := ⟨RX12, TX12, 72, tyX12, ck_12, by decide, rfl, Or.inl (gt_t6 181 (by decide +kernel) rfl)⟩
theorem fl_12_65 : zFL RX12 65 12 29 := ⟨RX12, TX12, 72, tyX12, ck_12, by decide, rfl, Or.inl (gt_t6 182 (by decide +kernel) rfl)⟩
theorem fl_12_68 : zFL RX12 68 12 30 := ⟨RX12, TX12, 72, tyX12, ck_12, by decide, rfl, Or.inl (gt_t6 183 (by decide +kernel) rfl)⟩
theorem fl_12_71 : zFL RX12 71 12 31 := ⟨RX12, TX12, 72, tyX12, ck_12, by decide, rfl, Or.inl (gt_t6 184 (by decide +kernel) rfl)⟩
theorem fl_12_74 : zFL RX12 74 12 32 := ⟨RX12, TX12, 72, tyX12, ck_12, by decide, rfl, Or.inl (gt_t6 185 (by decide +kernel) rfl)⟩
theorem fl_12_77 : zFL RX12 77 12 33 := ⟨RX12, TX12, 72, tyX12, ck_12, by decide, rfl, Or.inl (gt_t6 186 (by decide +kernel) rfl)⟩
theorem fl_12_80 : zFL RX12 80 12 34 := ⟨RX12, TX12, 72, tyX12, ck_12, by decide, rfl, Or.inl (gt_t6 187 (by decide +kernel) rfl)⟩
theorem fl_12_83 : zFL RX12 83 12 35 := ⟨RX12, TX12, 72, tyX12, ck_12, by decide, rfl, Or.inl (gt_t6 188 (by decide +kernel) rfl)⟩
theorem fl_12_86 : zFL RX12 86 12 36 := ⟨RX12, TX12, 72, tyX12, ck_12, by decide, rfl, Or.inl (gt_t6 189 (by decide +kernel) rfl)⟩
theorem fl_12_89 : zFL RX12 89 12 37 := ⟨RX12, TX12, 72, tyX12, ck_12, by decide, rfl, Or.inl (gt_t6 190 (by decide +kernel) rfl)⟩
theorem fl_12_92 : zFL RX12 92 12 38 := ⟨RX12, TX12, 72, tyX12, ck_12, by decide, rfl, Or.inl (gt_t6 191 (by decide +kernel) rfl)⟩
theorem fl_12_95 : zFL RX12 95 12 39 := ⟨RX12, TX12, 72, tyX12, ck_12, by decide, rfl, Or.inl (gt_t6 192 (by decide +kernel) rfl)⟩
theorem fl_12_98 : zFL RX12 98 12 40 := ⟨RX12, TX12, 72, tyX12, ck_12, by decide, rfl, Or.inl (gt_t6 193 (by decide +kernel) rfl)⟩
theorem fl_12_101 : zFL RX12 101 12 41 := ⟨RX12, TX12, 72, tyX12, ck_12, by decide, rfl, Or.inl (gt_t6 194 (by decide +kernel) rfl)⟩
theorem fl_12_104 : zFL RX12 104 12 42 := ⟨RX12, TX12, 72, tyX12, ck_12, by decide, rfl, Or.inl (gt_t6 195 (by decide +kernel) rfl)⟩
theorem fl_12_357 : zFL RX12 357 12 43 := ⟨RX12, TX12, 72, tyX12, ck_12, by decide, rfl, Or.inl (gt_t6 196 (by decide +kernel) rfl)⟩
theorem pl_12_357 : zPL RX12 357 12 43 0 := ⟨fl_12_357, fun C T N h => by cases (show vwCl[12]? = some (RX12, TX12, 72) from rfl).symm.trans h; exact ⟨rfl, tyX12_ok 43 (by decide)⟩⟩
theorem fl_12_360 : zFL RX12 360 12 44 := ⟨RX12, TX12, 72, tyX12, ck_12, by decide, rfl, Or.inl (gt_t6 197 (by decide +kernel) rfl)⟩
theorem pl_12_360 : zPL RX12 360 12 44 0 := ⟨fl_12_360, fun C T N h => by cases (show vwCl[12]? = some (RX12, TX12, 72) from rfl).symm.trans h; exact ⟨rfl, tyX12_ok 44 (by decide)⟩⟩
theorem fl_12_363 : zFL RX12 363 12 45 := ⟨RX12, TX12, 72, tyX12, ck_12, by decide, rfl, Or.inl (gt_t6 198 (by decide +kernel) rfl)⟩
theorem pl_12_363 : zPL RX12 363 12 45 0 := ⟨fl_12_363, fun C T N h => by cases (show vwCl[12]? = some (RX12, TX12, 72) from rfl).symm.trans h; exact ⟨rfl, tyX12_ok 45 (by decide)⟩⟩
theorem fl_12_366 : zFL RX12 366 12 46 := ⟨RX12, TX12, 72, tyX12, ck_12, by decide, rfl, Or.inl (gt_t6 199 (by decide +kernel) rfl)⟩
theorem pl_12_366 : zPL RX12 366 12 46 0 := ⟨fl_12_366, fun C T N h => by cases (show vwCl[12]? = some (RX12, TX12, 72) from rfl).symm.trans h; exact ⟨rfl, tyX12_ok 46 (by decide)⟩⟩
theorem fl_12_108 : zFL RX12 108 12 47 := ⟨RX12, TX12, 72, tyX12, ck_12, by decide, rfl, Or.inl (gt_t6 200 (by decide +kernel) rfl)⟩
theorem fl_12_111 : zFL RX12 111 12 48 := ⟨RX12, TX12, 72, tyX12, ck_12, by decide, rfl, Or.inl (gt_t6 201 (by decide +kernel) rfl)⟩
theorem fl_12_114 : zFL RX12 114 12 49 := ⟨RX12, TX12, 72, tyX12, ck_12, by decide, rfl, Or.inl (gt_t6 202 (by decide +kernel) rfl)⟩
theorem fl_12_412 : zFL RX12 412 12 50 := ⟨RX12, TX12, 72, tyX12, ck_12, by decide, rfl, Or.inl (gt_t6 203 (by decide +kernel) rfl)⟩
theorem pl_12_412 : zPL RX12 412 12 50 0 := ⟨fl_12_412, fun C T N h => by cases (show vwCl[12]? = some (RX12, TX12, 72) from rfl).symm.trans h; exact ⟨rfl, tyX12_ok 50 (by decide)⟩⟩
theorem fl_12_117 : zFL RX12 117 12 51 := ⟨RX12, TX12, 72, tyX12, ck_12, by decide, rfl, Or.inl (gt_t6 204 (by decide +kernel) rfl)⟩
theorem fl_12_120 : zFL RX12 120 12 52 := ⟨RX12, TX12, 72, tyX12, ck_12, by decide, rfl, Or.inl (gt_t6 205 (by decide +kernel) rfl)⟩
theorem fl_12_422 : zFL RX12 422 12 53 := ⟨RX12, TX12, 72, tyX12, ck_12, by decide, rfl, Or.inl (gt_t6 206 (by decide +kernel) rfl)⟩
theorem pl_12_422 : zPL RX12 422 12 53 0 := ⟨fl_12_422, fun C T N h => by cases (show vwCl[12]? = some (RX12, TX12, 72) from rfl).symm.trans h; exact ⟨rfl, tyX12_ok 53 (by decide)⟩⟩
theorem fl_12_425 : zFL RX12 425 12 54 := ⟨RX12, TX12, 72, tyX12, ck_12, by decide, rfl, Or.inl (gt_t6 207 (by decide +kernel) rfl)⟩
theorem pl_12_425 : zPL RX12 425 12 54 0 := ⟨fl_12_425, fun C T N h => by cases (show vwCl[12]? = some (RX12, TX12, 72) from rfl).symm.trans h; exact ⟨rfl, tyX12_ok 54 (by decide)⟩⟩
theorem fl_12_432 : zFL RX12 432 12 55 := ⟨RX12, TX12, 72, tyX12, ck_12, by decide, rfl, Or.inl (gt_t6 208 (by decide +kernel) rfl)⟩
theorem pl_12_432 : zPL RX12 432 12 55 0 := ⟨fl_12_432, fun C T N h => by cases (show vwCl[12]? = some (RX12, TX12, 72) from rfl).symm.trans h; exact ⟨rfl, tyX12_ok 55 (by decide)⟩⟩
theorem fl_12_435 : zFL RX12 435 12 56 := ⟨RX12, TX12, 72, tyX12, ck_12, by decide, rfl, Or.inl (gt_t6 209 (by decide +kernel) rfl)⟩
theorem pl_12_435 : zPL RX12 435 12 56 0 := ⟨fl_12_435, fun C T N h => by cases (show vwCl[12]? = some (RX12, TX12, 72) from rfl).symm.trans h; exact ⟨rfl, tyX12_ok 56 (by decide)⟩⟩
theorem fl_12_123 : zFL RX12 123 12 57 := ⟨RX12, TX12, 72, tyX12, ck_12, by decide, rfl, Or.inl (gt_t6 210 (by decide +kernel) rfl)⟩
theorem fl_12_126 : zFL RX12 126 12 58 := ⟨RX12, TX12, 72, tyX12, ck_12, by decide, rfl, Or.inl (gt_t6 211 (by decide +kernel) rfl)⟩
theorem fl_12_129 : zFL RX12 129 12 59 := ⟨RX12, TX12, 72, tyX12, ck_12, by decide, rfl, Or.inl (gt_t6 212 (by decide +kernel) rfl)⟩
theorem fl_12_451 : zFL RX12 451 12 60 := ⟨RX12, TX12, 72, tyX12, ck_12, by decide, rfl, Or.inl (gt_t6 213 (by decide +kernel) rfl)⟩
theorem pl_12_451 : zPL RX12 451 12 60 0 := ⟨fl_12_451, fun C T N h => by cases (show vwCl[12]? = some (RX12, TX12, 72) from rfl).symm.trans h; exact ⟨rfl, tyX12_ok 60 (by decide)⟩⟩
theorem fl_12_132 : zFL RX12 132 12 61 := ⟨RX12, TX12, 72, tyX12, ck_12, by decide, rfl, Or.inl (gt_t6 214 (by decide +kernel) rfl)⟩
theorem fl_12_135 : zFL RX12 135 12 62 := ⟨RX12, TX12, 72, tyX12, ck_12, by decide, rfl, Or.inl (gt_t6 215 (by decide +kernel) rfl)⟩
theorem fl_12_138 : zFL RX12 138 12 63 := ⟨RX12, TX12, 72, tyX12, ck_12, by decide, rfl, Or.inl (gt_t6 216 (by decide +kernel) rfl)⟩
theorem fl_12_141 : zFL RX12 141 12 64 := ⟨RX12, TX12, 72, tyX12, ck_12, by decide, rfl, Or.inl (gt_t6 217 (by decide +kernel) rfl)⟩
theorem fl_12_144 : zFL RX12 144 12 65 := ⟨RX12, TX12, 72, tyX12, ck_12, by decide, rfl, Or.inl (gt_t6 218 (by decide +kernel) rfl)⟩
theorem fl_12_466 : zFL RX12 466 12 66 := ⟨RX12, TX12, 72, tyX12, ck_12, by decide, rfl, Or.inl (gt_t6 219 (by decide +kernel) rfl)⟩
theorem pl_12_466 : zPL RX12 466 12 66 0 := ⟨fl_12_466, fun C T N h => by cases (show vwCl[12]? = some (RX12, TX12, 72) from rfl).symm.trans h; exact ⟨rfl, tyX12_ok 66 (by decide)⟩⟩
theorem fl_12_469 : zFL RX12 469 12 67 := ⟨RX12, TX12, 72, tyX12, ck_12, by decide, rfl, Or.inl (gt_t6 220 (by decide +kernel) rfl)⟩
theorem pl_12_469 : zPL RX12 469 12 67 0 := ⟨fl_12_469, fun C T N h => by cases (show vwCl[12]? = some (RX12, TX12, 72) from rfl).symm.trans h; exact ⟨rfl, tyX12_ok 67 (by decide)⟩⟩
theorem fl_12_490 : zFL RX12 490 12 68 := ⟨RX12, TX12, 72, tyX12, ck_12, by decide, rfl, Or.inl (gt_t6 221 (by decide +kernel) rfl)⟩
theorem pl_12_490 : zPL RX12 490 12 68 0 := ⟨fl_12_490, fun C T N h => by cases (show vwCl[12]? = some (RX12, TX12, 72) from rfl).symm.trans h; exact ⟨rfl, tyX12_ok 68 (by decide)⟩⟩
theorem fl_12_148 : zFL RX12 148 12 69 := ⟨RX12, TX12, 72, tyX12, ck_12, by decide, rfl, Or.inl (gt_t6 222 (by decide +kernel) rfl)⟩
theorem fl_12_151 : zFL RX12 151 12 70 := ⟨RX12, TX12, 72, tyX12, ck_12, by decide, rfl, Or.inl (gt_t6 223 (by decide +kernel) rfl)⟩
theorem fl_12_154 : zFL RX12 154 12 71 := ⟨RX12, TX12, 72, tyX12, ck_12, by decide, rfl, Or.inl (gt_t6 224 (by decide +kernel) rfl)⟩
theorem cs_9_42 : zcS RX9 42 yJ7_fill_53178 := ⟨Or.inl (gt_t1 149 (by decide +kernel) rfl), gt_t1 150 (by decide +kernel) rfl⟩
theorem cs_4_59 : zcS RX4 59 yJ7_fill_53178 := ⟨Or.inl (gt_t2 68 (by decide +kernel) rfl), gt_t1 150 (by decide +kernel) rfl⟩
theorem cv_L_28 : zcV RL 28 yX11_feed 11 := ⟨gt_t3 82 (by decide +kernel) rfl, gt_t3 83 (by decide +kernel) rfl, gt_t3 84 (by decide +kernel) rfl, _, _, rfl⟩
theorem cv_11_113 : zcV RX11 113 yX7_put 7 := ⟨gt_t3 86 (by decide +kernel) rfl, gt_t3 87 (by decide +kernel) rfl, gt_t3 88 (by decide +kernel) rfl, _, _, rfl⟩
theorem cv_L_33 : zcV RL 33 yX11_end 11 := ⟨gt_t3 90 (by decide +kernel) rfl, gt_t3 91 (by decide +kernel) rfl, gt_t3 92 (by decide +kernel) rfl, _, _, rfl⟩
theorem cv_L_38 : zcV RL 38 yX11_valley 11 := ⟨gt_t3 94 (by decide +kernel) rfl, gt_t3 95 (by decide +kernel) rfl, gt_t3 96 (by decide +kernel) rfl, _, _, rfl⟩
theorem cv_11_117 : zcV RX11 117 yX5_open 5 := ⟨gt_t3 98 (by decide +kernel) rfl, gt_t3 99 (by decide +kernel) rfl, gt_t3 100 (by decide +kernel) rfl, _, _, rfl⟩
theorem cv_11_120 : zcV RX11 120 yX9_take 9 := ⟨gt_t3 105 (by decide +kernel) rfl, gt_t3 106 (by decide +kernel) rfl, gt_t3 107 (by decide +kernel) rfl, _, _, rfl⟩
theorem cv_9_70 : zcV RX9 70 yX9_clear 9 := ⟨gt_t3 109 (by decide +kernel) rfl, gt_t3 110 (by decide +kernel) rfl, gt_t3 111 (by decide +kernel) rfl, _, _, rfl⟩
theorem cv_9_73 : zcV RX9 73 yX5_step 5 := ⟨gt_t3 113 (by decide +kernel) rfl, gt_t3 114 (by decide +kernel) rfl, gt_t3 115 (by decide +kernel) rfl, _, _, rfl⟩
theorem cv_5_63 : zcV RX5 63 yX5_takeRun 5 := ⟨gt_t3 117 (by decide +kernel) rfl, gt_t3 119 (by decide +kernel) rfl, gt_sel 0 (by decide +kernel) rfl, _, _, rfl⟩
theorem cv_9_81 : zcV RX9 81 yX9_takeLine 9 := ⟨gt_t3 121 (by decide +kernel) rfl, gt_t3 123 (by decide +kernel) rfl, gt_sel 1 (by decide +kernel) rfl, _, _, rfl⟩
theorem cv_9_85 : zcV RX9 85 yX5_keyword 5 := ⟨gt_t3 125 (by decide +kernel) rfl, gt_t3 126 (by decide +kernel) rfl, gt_t3 127 (by decide +kernel) rfl, _, _, rfl⟩
theorem cs_5_67 : zcS RX5 67 yX11_placeOf := ⟨Or.inr ⟨"TruthCord", nw_t3 129 (by decide +kernel) rfl⟩, gt_t3 130 (by decide +kernel) rfl⟩
theorem cv_9_89 : zcV RX9 89 yX9_takeWho 9 := ⟨gt_t3 132 (by decide +kernel) rfl, gt_t3 134 (by decide +kernel) rfl, gt_sel 2 (by decide +kernel) rfl, _, _, rfl⟩
theorem cv_9_108 : zcV RX9 108 yX5_refuse 5 := ⟨gt_t3 136 (by decide +kernel) rfl, gt_t3 137 (by decide +kernel) rfl, gt_t3 138 (by decide +kernel) rfl, _, _, rfl⟩
theorem cv_9_127 : zcV RX9 127 yX9_takeNewName 9 := ⟨gt_t3 140 (by decide +kernel) rfl, gt_t3 142 (by decide +kernel) rfl, gt_sel 3 (by decide +kernel) rfl, _, _, rfl⟩
theorem cv_9_116 : zcV RX9 116 yX5_isName 5 := ⟨gt_t3 144 (by decide +kernel) rfl, gt_t3 145 (by decide +kernel) rfl, gt_t3 146 (by decide +kernel) rfl, _, _, rfl⟩
theorem cs_9_123 : zcS RX9 123 yX11_placeOf := ⟨Or.inr ⟨"TruthCord", nw_t3 148 (by decide +kernel) rfl⟩, gt_t3 130 (by decide +kernel) rfl⟩
theorem cv_9_92 : zcV RX9 92 yX5_stepSign 5 := ⟨gt_t3 149 (by decide +kernel) rfl, gt_t3 150 (by decide +kernel) rfl, gt_t3 151 (by decide +kernel) rfl, _, _, rfl⟩
theorem cv_5_71 : zcV RX5 71 yX5_step 5 := ⟨gt_t3 153 (by decide +kernel) rfl, gt_t3 114 (by decide +kernel) rfl, gt_t3 115 (by decide +kernel) rfl, _, _, rfl⟩
theorem cv_5_74 : zcV RX5 74 yX5_isSign 5 := ⟨gt_t3 154 (by decide +kernel) rfl, gt_t3 155 (by decide +kernel) rfl, gt_t3 156 (by decide +kernel) rfl, _, _, rfl⟩
theorem cv_5_78 : zcV RX5 78 yX5_refuse 5 := ⟨gt_t3 158 (by decide +kernel) rfl, gt_t3 137 (by decide +kernel) rfl, gt_t3 138 (by decide +kernel) rfl, _, _, rfl⟩
theorem cv_9_96 : zcV RX9 96 yX9_takeFact 9 := ⟨gt_t3 159 (by decide +kernel) rfl, gt_t3 161 (by decide +kernel) rfl, gt_sel 4 (by decide +kernel) rfl, _, _, rfl⟩
theorem cv_9_130 : zcV RX9 130 yX5_stepNumber 5 := ⟨gt_t3 163 (by decide +kernel) rfl, gt_t3 164 (by decide +kernel) rfl, gt_t3 165 (by decide +kernel) rfl, _, _, rfl⟩
theorem cv_9_134 : zcV RX9 134 yX5_stepName 5 := ⟨gt_t3 167 (by decide +kernel) rfl, gt_t3 168 (by decide +kernel) rfl, gt_t3 169 (by decide +kernel) rfl, _, _, rfl⟩
theorem cv_5_82 : zcV RX5 82 yX5_isName 5 := ⟨gt_t3 171 (by decide +kernel) rfl, gt_t3 145 (by decide +kernel) rfl, gt_t3 146 (by decide +kernel) rfl, _, _, rfl⟩
theorem cv_9_99 : zcV RX9 99 yX9_takeKnows 9 := ⟨gt_t3 172 (by decide +kernel) rfl, gt_t3 174 (by decide +kernel) rfl, gt_sel 5 (by decide +kernel) rfl, _, _, rfl⟩
theorem cs_9_138 : zcS RX9 138 yX11_hasBit := ⟨Or.inr ⟨"TruthCord", nw_t3 176 (by decide +kernel) rfl⟩, gt_t3 177 (by decide +kernel) rfl⟩
theorem cv_9_102 : zcV RX9 102 yX9_takeSince 9 := ⟨gt_t3 179 (by decide +kernel) rfl, gt_t3 181 (by decide +kernel) rfl, gt_sel 6 (by decide +kernel) rfl, _, _, rfl⟩
theorem cv_9_105 : zcV RX9 105 yX9_takeAsks 9 := ⟨gt_t3 183 (by decide +kernel) rfl, gt_t3 185 (by decide +kernel) rfl, gt_sel 7 (by decide +kernel) rfl, _, _, rfl⟩
theorem cv_9_112 : zcV RX9 112 yX9_takeSetting 9 := ⟨gt_t3 187 (by decide +kernel) rfl, gt_t3 189 (by decide +kernel) rfl, gt_sel 8 (by decide +kernel) rfl, _, _, rfl⟩
theorem cv_11_124 : zcV RX11 124 yX11_noteReading 11 := ⟨gt_t3 195 (by decide +kernel) rfl, gt_t3 197 (by decide +kernel) rfl, gt_sel 9 (by decide +kernel) rfl, _, _, rfl⟩
theorem cv_11_127 : zcV RX11 127 yX11_refusedAt 11 := ⟨gt_t3 199 (by decide +kernel) rfl, gt_t3 201 (by decide +kernel) rfl, gt_sel 10 (by decide +kernel) rfl, _, _, rfl⟩
theorem cv_11_131 : zcV RX11 131 yX9_copy 9 := ⟨gt_t3 203 (by decide +kernel) rfl, gt_t3 204 (by decide +kernel) rfl, gt_t3 205 (by decide +kernel) rfl, _, _, rfl⟩
theorem cv_11_135 : zcV RX11 135 yX0_clear 0 := ⟨gt_t3 207 (by decide +kernel) rfl, gt_t3 208 (by decide +kernel) rfl, gt_t3 209 (by decide +kernel) rfl, _, _, rfl⟩
theorem cv_11_138 : zcV RX11 138 yX6_clear 6 := ⟨gt_t3 211 (by decide +kernel) rfl, gt_t3 212 (by decide +kernel) rfl, gt_t3 213 (by decide +kernel) rfl, _, _, rfl⟩
theorem cv_11_139 : zcV RX11 139 yX11_judgeAnew 11 := ⟨gt_t3 215 (by decide +kernel) rfl, gt_t3 217 (by decide +kernel) rfl, gt_sel 11 (by decide +kernel) rfl, _, _, rfl⟩
theorem cv_11_330 : zcV RX11 330 yX4_judge 4 := ⟨gt_t3 219 (by decide +kernel) rfl, gt_t3 220 (by decide +kernel) rfl, gt_t3 221 (by decide +kernel) rfl, _, _, rfl⟩
theorem cv_4_84 : zcV RX4 84 yX4_clear 4 := ⟨gt_t3 223 (by decide +kernel) rfl, gt_t3 225 (by decide +kernel) rfl, gt_sel 12 (by decide +kernel) rfl, _, _, rfl⟩
theorem cv_4_74 : zcV RX4 74 yX9_follow 9 := ⟨gt_t3 227 (by decide +kernel) rfl, gt_t3 228 (by decide +kernel) rfl, gt_t3 229 (by decide +kernel) rfl, _, _, rfl⟩
theorem cv_4_92 : zcV RX4 92 yX4_judgeLine 4 := ⟨gt_t3 231 (by decide +kernel) rfl, gt_t3 233 (by decide +kernel) rfl, gt_sel 13 (by decide +kernel) rfl, _, _, rfl⟩
theorem cv_4_106 : zcV RX4 106 yX4_whyWrong 4 := ⟨gt_t3 235 (by decide +kernel) rfl, gt_t3 237 (by decide +kernel) rfl, gt_sel 14 (by decide +kernel) rfl, _, _, rfl⟩
theorem cs_4_135 : zcS RX4 135 yX11_hasBit := ⟨Or.inr ⟨"TruthCord", nw_t3 239 (by decide +kernel) rfl⟩, gt_t3 177 (by decide +kernel) rfl⟩
theorem cv_4_139 : zcV RX4 139 yX4_isKnown 4 := ⟨gt_t4 0 (by decide +kernel) rfl, gt_t4 1 (by decide +kernel) rfl, gt_t4 2 (by decide +kernel) rfl, _, _, rfl⟩
theorem cv_4_110 : zcV RX4 110 yX4_lie 4 := ⟨gt_t4 4 (by decide +kernel) rfl, gt_t4 6 (by decide +kernel) rfl, gt_sel 15 (by decide +kernel) rfl, _, _, rfl⟩
theorem cs_4_142 : zcS RX4 142 yJ6_bitCount_0f7a4 := ⟨Or.inl (gt_t4 8 (by decide +kernel) rfl), gt_t4 9 (by decide +kernel) rfl⟩
theorem cs_4_120 : zcS RX4 120 yX11_cutUp := ⟨Or.inr ⟨"TruthCord", nw_t4 14 (by decide +kernel) rfl⟩, gt_t4 15 (by decide +kernel) rfl⟩
theorem cv_4_124 : zcV RX4 124 yX4_owe 4 := ⟨gt_t4 17 (by decide +kernel) rfl, gt_t4 19 (by decide +kernel) rfl, gt_sel 16 (by decide +kernel) rfl, _, _, rfl⟩
theorem cv_4_128 : zcV RX4 128 yX4_tell 4 := ⟨gt_t4 21 (by decide +kernel) rfl, gt_t4 23 (by decide +kernel) rfl, gt_sel 17 (by decide +kernel) rfl, _, _, rfl⟩
theorem cv_4_150 : zcV RX4 150 yX4_valueFor 4 := ⟨gt_t4 25 (by decide +kernel) rfl, gt_t4 26 (by decide +kernel) rfl, gt_t4 27 (by decide +kernel) rfl, _, _, rfl⟩
theorem cv_4_175 : zcV RX4 175 yX4_oldValue 4 := ⟨gt_t4 29 (by decide +kernel) rfl, gt_t4 30 (by decide +kernel) rfl, gt_t4 31 (by decide +kernel) rfl, _, _, rfl⟩
theorem cv_4_178 : zcV RX4 178 yX4_knownToOthers 4 := ⟨gt_t4 33 (by decide +kernel) rfl, gt_t4 35 (by decide +kernel) rfl, gt_sel 18 (by decide +kernel) rfl, _, _, rfl⟩
theorem cv_4_153 : zcV RX4 153 yX4_pay 4 := ⟨gt_t4 37 (by decide +kernel) rfl, gt_t4 39 (by decide +kernel) rfl, gt_sel 19 (by decide +kernel) rfl, _, _, rfl⟩
theorem cv_4_132 : zcV RX4 132 yX4_learn 4 := ⟨gt_t4 41 (by decide +kernel) rfl, gt_t4 43 (by decide +kernel) rfl, gt_sel 20 (by decide +kernel) rfl, _, _, rfl⟩
theorem cv_4_160 : zcV RX4 160 yX4_freshFor 4 := ⟨gt_t4 45 (by decide +kernel) rfl, gt_t4 46 (by decide +kernel) rfl, gt_t4 47 (by decide +kernel) rfl, _, _, rfl⟩
theorem cv_4_166 : zcV RX4 166 yX4_grown 4 := ⟨gt_t4 49 (by decide +kernel) rfl, gt_t4 51 (by decide +kernel) rfl, gt_sel 21 (by decide +kernel) rfl, _, _, rfl⟩
theorem cv_L_43 : zcV RL 43 yX11_fault 11 := ⟨gt_t4 53 (by decide +kernel) rfl, gt_t4 54 (by decide +kernel) rfl, gt_t4 55 (by decide +kernel) rfl, _, _, rfl⟩
theorem cv_L_56 : zcV RL 56 yX11_knows 11 := ⟨gt_t4 57 (by decide +kernel) rfl, gt_t4 58 (by decide +kernel) rfl, gt_t4 59 (by decide +kernel) rfl, _, _, rfl⟩
theorem cv_11_158 : zcV RX11 158 yX9_hasWho 9 := ⟨gt_t4 61 (by decide +kernel) rfl, gt_t4 62 (by decide +kernel) rfl, gt_t4 63 (by decide +kernel) rfl, _, _, rfl⟩
theorem cv_11_164 : zcV RX11 164 yX9_follow 9 := ⟨gt_t4 65 (by decide +kernel) rfl, gt_t3 228 (by decide +kernel) rfl, gt_t3 229 (by decide +kernel) rfl, _, _, rfl⟩
theorem cv_L_60 : zcV RL 60 yX11_book 11 := ⟨gt_t4 66 (by decide +kernel) rfl, gt_t4 67 (by decide +kernel) rfl, gt_t4 68 (by decide +kernel) rfl, _, _, rfl⟩
theorem cv_11_171 : zcV RX11 171 yX0_take 0 := ⟨gt_t4 70 (by decide +kernel) rfl, gt_t4 71 (by decide +kernel) rfl, gt_t4 72 (by decide +kernel) rfl, _, _, rfl⟩
theorem cv_0_50 : zcV RX0 50 yX0_clear 0 := ⟨gt_t4 74 (by decide +kernel) rfl, gt_t3 208 (by decide +kernel) rfl, gt_t3 209 (by decide +kernel) rfl, _, _, rfl⟩
theorem cv_0_71 : zcV RX0 71 yX5_step 5 := ⟨gt_t4 75 (by decide +kernel) rfl, gt_t3 114 (by decide +kernel) rfl, gt_t3 115 (by decide +kernel) rfl, _, _, rfl⟩
theorem cv_0_78 : zcV RX0 78 yX0_takeLine 0 := ⟨gt_t4 76 (by decide +kernel) rfl, gt_t4 78 (by decide +kernel) rfl, gt_sel 22 (by decide +kernel) rfl, _, _, rfl⟩
theorem cv_0_82 : zcV RX0 82 yX5_keyword 5 := ⟨gt_t4 80 (by decide +kernel) rfl, gt_t3 126 (by decide +kernel) rfl, gt_t3 127 (by decide +kernel) rfl, _, _, rfl⟩
theorem cv_0_86 : zcV RX0 86 yX0_takeDay 0 := ⟨gt_t4 81 (by decide +kernel) rfl, gt_t4 83 (by decide +kernel) rfl, gt_sel 23 (by decide +kernel) rfl, _, _, rfl⟩
theorem cv_0_94 : zcV RX0 94 yX5_refuse 5 := ⟨gt_t4 85 (by decide +kernel) rfl, gt_t3 137 (by decide +kernel) rfl, gt_t3 138 (by decide +kernel) rfl, _, _, rfl⟩
theorem cv_0_112 : zcV RX0 112 yX5_stepNumber 5 := ⟨gt_t4 86 (by decide +kernel) rfl, gt_t3 164 (by decide +kernel) rfl, gt_t3 165 (by decide +kernel) rfl, _, _, rfl⟩
theorem cv_0_116 : zcV RX0 116 yX5_stepSign 5 := ⟨gt_t4 87 (by decide +kernel) rfl, gt_t3 150 (by decide +kernel) rfl, gt_t3 151 (by decide +kernel) rfl, _, _, rfl⟩
theorem cv_0_67 : zcV RX0 67 yX0_addDay 0 := ⟨gt_t4 88 (by decide +kernel) rfl, gt_t4 90 (by decide +kernel) rfl, gt_sel 24 (by decide +kernel) rfl, _, _, rfl⟩
theorem cv_0_46 : zcV RX0 46 yX0_add 0 := ⟨gt_t4 92 (by decide +kernel) rfl, gt_t4 94 (by decide +kernel) rfl, gt_sel 25 (by decide +kernel) rfl, _, _, rfl⟩
theorem cv_0_90 : zcV RX0 90 yX5_isName 5 := ⟨gt_t4 96 (by decide +kernel) rfl, gt_t3 145 (by decide +kernel) rfl, gt_t3 146 (by decide +kernel) rfl, _, _, rfl⟩
theorem cs_0_104 : zcS RX0 104 yX11_placeOf := ⟨Or.inr ⟨"TruthCord", nw_t4 97 (by decide +kernel) rfl⟩, gt_t3 130 (by decide +kernel) rfl⟩
theorem cv_0_108 : zcV RX0 108 yX0_takeDeed 0 := ⟨gt_t4 98 (by decide +kernel) rfl, gt_t4 100 (by decide +kernel) rfl, gt_sel 26 (by decide +kernel) rfl, _, _, rfl⟩
theorem cv_0_120 : zcV RX0 120 yX5_stepName 5 := ⟨gt_t4 102 (by decide +kernel) rfl, gt_t3 168 (by decide +kernel) rfl, gt_t3 169 (by decide +kernel) rfl, _, _, rfl⟩
theorem cv_0_127 : zcV RX0 127 yX0_takeWith 0 := ⟨gt_t4 103 (by decide +kernel) rfl, gt_t4 105 (by decide +kernel) rfl, gt_sel 27 (by decide +kernel) rfl, _, _, rfl⟩
theorem cv_0_131 : zcV RX0 131 yX5_isSign 5 := ⟨gt_t4 107 (by decide +kernel) rfl, gt_t3 155 (by decide +kernel) rfl, gt_t3 156 (by decide +kernel) rfl, _, _, rfl⟩
theorem cs_0_134 : zcS RX0 134 yX11_hasBit := ⟨Or.inr ⟨"TruthCord", nw_t4 108 (by decide +kernel) rfl⟩, gt_t3 177 (by decide +kernel) rfl⟩
theorem cv_11_174 : zcV RX11 174 yX0_copy 0 := ⟨gt_t4 109 (by decide +kernel) rfl, gt_t4 110 (by decide +kernel) rfl, gt_t4 111 (by decide +kernel) rfl, _, _, rfl⟩
theorem cv_L_64 : zcV RL 64 yX11_drawn 11 := ⟨gt_t4 114 (by decide +kernel) rfl, gt_t4 115 (by decide +kernel) rfl, gt_t4 116 (by decide +kernel) rfl, _, _, rfl⟩
theorem cv_11_189 : zcV RX11 189 yX0_draw 0 := ⟨gt_t4 118 (by decide +kernel) rfl, gt_t4 119 (by decide +kernel) rfl, gt_t4 120 (by decide +kernel) rfl, _, _, rfl⟩
theorem cv_0_53 : zcV RX0 53 yX1_draw 1 := ⟨gt_t4 122 (by decide +kernel) rfl, gt_t4 123 (by decide +kernel) rfl, gt_t4 124 (by decide +kernel) rfl, _, _, rfl⟩
theorem cv_L_71 : zcV RL 71 yX11_wrong 11 := ⟨gt_t4 127 (by decide +kernel) rfl, gt_t4 128 (by decide +kernel) rfl, gt_t4 129 (by decide +kernel) rfl, _, _, rfl⟩
theorem cv_11_193 : zcV RX11 193 yX0_hasLine 0 := ⟨gt_t4 131 (by decide +kernel) rfl, gt_t4 132 (by decide +kernel) rfl, gt_t4 133 (by decide +kernel) rfl, _, _, rfl⟩
theorem cv_L_76 : zcV RL 76 yX11_debts 11 := ⟨gt_t4 135 (by decide +kernel) rfl, gt_t4 136 (by decide +kernel) rfl, gt_t4 137 (by decide +kernel) rfl, _, _, rfl⟩
theorem cv_L_83 : zcV RL 83 yX11_worth 11 := ⟨gt_t4 139 (by decide +kernel) rfl, gt_t4 140 (by decide +kernel) rfl, gt_t4 141 (by decide +kernel) rfl, _, _, rfl⟩
theorem cv_11_142 : zcV RX11 142 yX9_hasFact 9 := ⟨gt_t4 143 (by decide +kernel) rfl, gt_t4 144 (by decide +kernel) rfl, gt_t4 145 (by decide +kernel) rfl, _, _, rfl⟩
theorem cv_11_240 : zcV RX11 240 yX4_isKnown 4 := ⟨gt_t4 147 (by decide +kernel) rfl, gt_t4 1 (by decide +kernel) rfl, gt_t4 2 (by decide +kernel) rfl, _, _, rfl⟩
theorem cv_11_244 : zcV RX11 244 yX4_valueFor 4 := ⟨gt_t4 148 (by decide +kernel) rfl, gt_t4 26 (by decide +kernel) rfl, gt_t4 27 (by decide +kernel) rfl, _, _, rfl⟩
theorem cv_L_90 : zcV RL 90 yX11_autumn 11 := ⟨gt_t4 149 (by decide +kernel) rfl, gt_t4 150 (by decide +kernel) rfl, gt_t4 151 (by decide +kernel) rfl, _, _, rfl⟩
theorem cv_11_251 : zcV RX11 251 yX4_sumInAll 4 := ⟨gt_t4 153 (by decide +kernel) rfl, gt_t4 154 (by decide +kernel) rfl, gt_t4 155 (by decide +kernel) rfl, _, _, rfl⟩
theorem cv_4_194 : zcV RX4 194 yX4_isLate 4 := ⟨gt_t4 157 (by decide +kernel) rfl, gt_t4 158 (by decide +kernel) rfl, gt_t4 159 (by decide +kernel) rfl, _, _, rfl⟩
theorem cv_4_184 : zcV RX4 184 yX0_hasLine 0 := ⟨gt_t4 161 (by decide +kernel) rfl, gt_t4 132 (by decide +kernel) rfl, gt_t4 133 (by decide +kernel) rfl, _, _, rfl⟩
theorem cv_4_191 : zcV RX4 191 yX4_dayOf 4 := ⟨gt_t4 162 (by decide +kernel) rfl, gt_t4 163 (by decide +kernel) rfl, gt_t4 164 (by decide +kernel) rfl, _, _, rfl⟩
theorem cv_11_254 : zcV RX11 254 yX4_hurtInAll 4 := ⟨gt_t4 166 (by decide +kernel) rfl, gt_t4 167 (by decide +kernel) rfl, gt_t4 168 (by decide +kernel) rfl, _, _, rfl⟩
theorem cv_11_257 : zcV RX11 257 yX4_howManyWrong 4 := ⟨gt_t4 170 (by decide +kernel) rfl, gt_t4 171 (by decide +kernel) rfl, gt_t4 172 (by decide +kernel) rfl, _, _, rfl⟩
theorem cv_L_94 : zcV RL 94 yX11_feast 11 := ⟨gt_t4 174 (by decide +kernel) rfl, gt_t4 175 (by decide +kernel) rfl, gt_t4 176 (by decide +kernel) rfl, _, _, rfl⟩
theorem cv_11_263 : zcV RX11 263 yX2_settle 2 := ⟨gt_t4 178 (by decide +kernel) rfl, gt_t4 179 (by decide +kernel) rfl, gt_t4 180 (by decide +kernel) rfl, _, _, rfl⟩
theorem cv_2_26 : zcV RX2 26 yX2_takeDebts 2 := ⟨gt_t4 182 (by decide +kernel) rfl, gt_t4 184 (by decide +kernel) rfl, gt_sel 28 (by decide +kernel) rfl, _, _, rfl⟩
theorem cv_2_74 : zcV RX2 74 yX4_knownToAll 4 := ⟨gt_t4 186 (by decide +kernel) rfl, gt_t4 187 (by decide +kernel) rfl, gt_t4 188 (by decide +kernel) rfl, _, _, rfl⟩
theorem cs_2_88 : zcS RX2 88 yX2_payableFor := ⟨Or.inl (gt_t4 190 (by decide +kernel) rfl), gt_t4 191 (by decide +kernel) rfl⟩
theorem cs_2_92 : zcS RX2 92 yX11_hasBit := ⟨Or.inr ⟨"TruthCord", nw_t4 193 (by decide +kernel) rfl⟩, gt_t3 177 (by decide +kernel) rfl⟩
theorem cv_2_96 : zcV RX2 96 yX4_valueFor 4 := ⟨gt_t4 194 (by decide +kernel) rfl, gt_t4 26 (by decide +kernel) rfl, gt_t4 27 (by decide +kernel) rfl, _, _, rfl⟩
theorem cs_2_36 : zcS RX2 36 yJ7_fill_d0a16 := ⟨Or.inl (gt_t4 196 (by decide +kernel) rfl), gt_t4 197 (by decide +kernel) rfl⟩
theorem cv_2_56 : zcV RX2 56 yX2_tryFact 2 := ⟨gt_t4 199 (by decide +kernel) rfl, gt_t4 201 (by decide +kernel) rfl, gt_sel 29 (by decide +kernel) rfl, _, _, rfl⟩
theorem cs_2_100 : zcS RX2 100 yX2_digitShift := ⟨Or.inl (gt_t4 203 (by decide +kernel) rfl), gt_t4 204 (by decide +kernel) rfl⟩
theorem cv_2_60 : zcV RX2 60 yX2_unpaidBut 2 := ⟨gt_t4 209 (by decide +kernel) rfl, gt_t4 211 (by decide +kernel) rfl, gt_sel 30 (by decide +kernel) rfl, _, _, rfl⟩
theorem cv_2_70 : zcV RX2 70 yX2_keep 2 := ⟨gt_t4 215 (by decide +kernel) rfl, gt_t4 217 (by decide +kernel) rfl, gt_sel 31 (by decide +kernel) rfl, _, _, rfl⟩
theorem cv_L_98 : zcV RL 98 yX11_feastAt 11 := ⟨gt_t4 219 (by decide +kernel) rfl, gt_t4 220 (by decide +kernel) rfl, gt_t4 221 (by decide +kernel) rfl, _, _, rfl⟩
theorem cv_L_102 : zcV RL 102 yX11_needs 11 := ⟨gt_t4 223 (by decide +kernel) rfl, gt_t4 224 (by decide +kernel) rfl, gt_t4 225 (by decide +kernel) rfl, _, _, rfl⟩
theorem cv_11_277 : zcV RX11 277 yX10_leastFor 10 := ⟨gt_t4 227 (by decide +kernel) rfl, gt_t4 228 (by decide +kernel) rfl, gt_t4 229 (by decide +kernel) rfl, _, _, rfl⟩
theorem cv_10_27 : zcV RX10 27 yX10_takeDues 10 := ⟨gt_t4 231 (by decide +kernel) rfl, gt_t4 233 (by decide +kernel) rfl, gt_sel 32 (by decide +kernel) rfl, _, _, rfl⟩
theorem cv_10_44 : zcV RX10 44 yX10_takeFact 10 := ⟨gt_t4 236 (by decide +kernel) rfl, gt_t4 238 (by decide +kernel) rfl, gt_sel 33 (by decide +kernel) rfl, _, _, rfl⟩
theorem cv_10_69 : zcV RX10 69 yX4_isKnown 4 := ⟨gt_t5 0 (by decide +kernel) rfl, gt_t4 1 (by decide +kernel) rfl, gt_t4 2 (by decide +kernel) rfl, _, _, rfl⟩
theorem cv_10_73 : zcV RX10 73 yX4_valueFor 4 := ⟨gt_t5 1 (by decide +kernel) rfl, gt_t4 26 (by decide +kernel) rfl, gt_t4 27 (by decide +kernel) rfl, _, _, rfl⟩
theorem cv_10_76 : zcV RX10 76 yX4_priceFor 4 := ⟨gt_t5 2 (by decide +kernel) rfl, gt_t5 3 (by decide +kernel) rfl, gt_t5 4 (by decide +kernel) rfl, _, _, rfl⟩
theorem cv_10_79 : zcV RX10 79 yX4_oldValue 4 := ⟨gt_t5 6 (by decide +kernel) rfl, gt_t4 30 (by decide +kernel) rfl, gt_t4 31 (by decide +kernel) rfl, _, _, rfl⟩
theorem cs_10_48 : zcS RX10 48 yJ7_fill_53178 := ⟨Or.inl (gt_t5 7 (by decide +kernel) rfl), gt_t1 150 (by decide +kernel) rfl⟩
theorem cs_11_282 : zcS RX11 282 yX10_factsIn := ⟨Or.inl (gt_t5 10 (by decide +kernel) rfl), gt_t5 11 (by decide +kernel) rfl⟩
theorem cs_11_285 : zcS RX11 285 yX10_bitsOf := ⟨Or.inl (gt_t5 13 (by decide +kernel) rfl), gt_t5 14 (by decide +kernel) rfl⟩
theorem cv_L_106 : zcV RL 106 yX11_buys 11 := ⟨gt_t5 16 (by decide +kernel) rfl, gt_t5 17 (by decide +kernel) rfl, gt_t5 18 (by decide +kernel) rfl, _, _, rfl⟩
theorem cs_11_288 : zcS RX11 288 yX10_coinsFor := ⟨Or.inl (gt_t5 20 (by decide +kernel) rfl), gt_t5 21 (by decide +kernel) rfl⟩
theorem cv_L_110 : zcV RL 110 yX11_terms 11 := ⟨gt_t5 23 (by decide +kernel) rfl, gt_t5 24 (by decide +kernel) rfl, gt_t5 25 (by decide +kernel) rfl, _, _, rfl⟩
theorem cv_11_291 : zcV RX11 291 yX4_firstOpenOf 4 := ⟨gt_t5 27 (by decide +kernel) rfl, gt_t5 28 (by decide +kernel) rfl, gt_t5 29 (by decide +kernel) rfl, _, _, rfl⟩
theorem cv_11_294 : zcV RX11 294 yX4_dayOf 4 := ⟨gt_t5 31 (by decide +kernel) rfl, gt_t4 163 (by decide +kernel) rfl, gt_t4 164 (by decide +kernel) rfl, _, _, rfl⟩
theorem cv_L_114 : zcV RL 114 yX11_source 11 := ⟨gt_t5 32 (by decide +kernel) rfl, gt_t5 33 (by decide +kernel) rfl, gt_t5 34 (by decide +kernel) rfl, _, _, rfl⟩
theorem cv_L_118 : zcV RL 118 yX11_led 11 := ⟨gt_t5 36 (by decide +kernel) rfl, gt_t5 37 (by decide +kernel) rfl, gt_t5 38 (by decide +kernel) rfl, _, _, rfl⟩
theorem cv_11_303 : zcV RX11 303 yX4_paidByTelling 4 := ⟨gt_t5 40 (by decide +kernel) rfl, gt_t5 41 (by decide +kernel) rfl, gt_t5 42 (by decide +kernel) rfl, _, _, rfl⟩
theorem cv_L_122 : zcV RL 122 yX11_order 11 := ⟨gt_t5 44 (by decide +kernel) rfl, gt_t5 45 (by decide +kernel) rfl, gt_t5 46 (by decide +kernel) rfl, _, _, rfl⟩
theorem cv_11_306 : zcV RX11 306 yX8_take 8 := ⟨gt_t5 48 (by decide +kernel) rfl, gt_t5 49 (by decide +kernel) rfl, gt_t5 50 (by decide +kernel) rfl, _, _, rfl⟩
theorem cv_8_39 : zcV RX8 39 yX9_hasWho 9 := ⟨gt_t5 52 (by decide +kernel) rfl, gt_t4 62 (by decide +kernel) rfl, gt_t4 63 (by decide +kernel) rfl, _, _, rfl⟩
theorem cv_8_45 : zcV RX8 45 yX9_hasFact 9 := ⟨gt_t5 53 (by decide +kernel) rfl, gt_t4 144 (by decide +kernel) rfl, gt_t4 145 (by decide +kernel) rfl, _, _, rfl⟩
theorem cv_11_309 : zcV RX11 309 yX8_settle 8 := ⟨gt_t5 54 (by decide +kernel) rfl, gt_t5 55 (by decide +kernel) rfl, gt_t5 56 (by decide +kernel) rfl, _, _, rfl⟩
theorem cv_8_48 : zcV RX8 48 yX4_copyDebts 4 := ⟨gt_t5 58 (by decide +kernel) rfl, gt_t5 59 (by decide +kernel) rfl, gt_t5 60 (by decide +kernel) rfl, _, _, rfl⟩
theorem cv_8_55 : zcV RX8 55 yX4_goBackTo 4 := ⟨gt_t5 64 (by decide +kernel) rfl, gt_t5 65 (by decide +kernel) rfl, gt_t5 66 (by decide +kernel) rfl, _, _, rfl⟩
theorem cv_8_58 : zcV RX8 58 yX8_tryTurns 8 := ⟨gt_t5 68 (by decide +kernel) rfl, gt_t5 70 (by decide +kernel) rfl, gt_sel 34 (by decide +kernel) rfl, _, _, rfl⟩
theorem cv_8_79 : zcV RX8 79 yX4_tellMore 4 := ⟨gt_t5 72 (by decide +kernel) rfl, gt_t5 73 (by decide +kernel) rfl, gt_t5 74 (by decide +kernel) rfl, _, _, rfl⟩
theorem cv_8_62 : zcV RX8 62 yX4_owedInAll 4 := ⟨gt_t5 76 (by decide +kernel) rfl, gt_t5 77 (by decide +kernel) rfl, gt_t5 78 (by decide +kernel) rfl, _, _, rfl⟩
theorem cv_4_197 : zcV RX4 197 yX4_sumInAll 4 := ⟨gt_t5 80 (by decide +kernel) rfl, gt_t4 154 (by decide +kernel) rfl, gt_t4 155 (by decide +kernel) rfl, _, _, rfl⟩
theorem cv_8_72 : zcV RX8 72 yX8_nextTurns 8 := ⟨gt_t5 82 (by decide +kernel) rfl, gt_t5 84 (by decide +kernel) rfl, gt_sel 35 (by decide +kernel) rfl, _, _, rfl⟩
theorem cv_8_83 : zcV RX8 83 yX8_swap 8 := ⟨gt_t5 86 (by decide +kernel) rfl, gt_t5 88 (by decide +kernel) rfl, gt_sel 36 (by decide +kernel) rfl, _, _, rfl⟩
theorem cv_L_126 : zcV RL 126 yX11_orderAt 11 := ⟨gt_t5 90 (by decide +kernel) rfl, gt_t5 91 (by decide +kernel) rfl, gt_t5 92 (by decide +kernel) rfl, _, _, rfl⟩
theorem cv_L_130 : zcV RL 130 yX11_ripple 11 := ⟨gt_t5 94 (by decide +kernel) rfl, gt_t5 95 (by decide +kernel) rfl, gt_t5 96 (by decide +kernel) rfl, _, _, rfl⟩
theorem cv_11_318 : zcV RX11 318 yX4_freshFor 4 := ⟨gt_t5 98 (by decide +kernel) rfl, gt_t4 46 (by decide +kernel) rfl, gt_t4 47 (by decide +kernel) rfl, _, _, rfl⟩
theorem cv_11_321 : zcV RX11 321 yX4_openAbout 4 := ⟨gt_t5 99 (by decide +kernel) rfl, gt_t5 100 (by decide +kernel) rfl, gt_t5 101 (by decide +kernel) rfl, _, _, rfl⟩
theorem cv_4_200 : zcV RX4 200 yX4_isOpenAbout 4 := ⟨gt_t5 103 (by decide +kernel) rfl, gt_t5 105 (by decide +kernel) rfl, gt_sel 37 (by decide +kernel) rfl, _, _, rfl⟩
theorem cv_11_324 : zcV RX11 324 yX4_owedInAll 4 := ⟨gt_t5 107 (by decide +kernel) rfl, gt_t5 77 (by decide +kernel) rfl, gt_t5 78 (by decide +kernel) rfl, _, _, rfl⟩
theorem cv_11_327 : zcV RX11 327 yX4_growthAbout 4 := ⟨gt_t5 108 (by decide +kernel) rfl, gt_t5 109 (by decide +kernel) rfl, gt_t5 110 (by decide +kernel) rfl, _, _, rfl⟩
theorem cv_L_135 : zcV RL 135 yX11_unsaid 11 := ⟨gt_t5 112 (by decide +kernel) rfl, gt_t5 113 (by decide +kernel) rfl, gt_t5 114 (by decide +kernel) rfl, _, _, rfl⟩
theorem cv_L_139 : zcV RL 139 yX11_cord 11 := ⟨gt_t5 116 (by decide +kernel) rfl, gt_t5 117 (by decide +kernel) rfl, gt_t5 118 (by decide +kernel) rfl, _, _, rfl⟩
theorem cs_11_333 : zcS RX11 333 yX11_isLength := ⟨Or.inl (gt_t5 120 (by decide +kernel) rfl), gt_t5 121 (by decide +kernel) rfl⟩
theorem cs_11_336 : zcS RX11 336 yX11_knotsAt := ⟨Or.inl (gt_t5 123 (by decide +kernel) rfl), gt_t5 124 (by decide +kernel) rfl⟩
theorem cv_L_143 : zcV RL 143 yX11_read 11 := ⟨gt_t5 126 (by decide +kernel) rfl, gt_t5 127 (by decide +kernel) rfl, gt_t5 128 (by decide +kernel) rfl, _, _, rfl⟩
theorem cv_11_339 : zcV RX11 339 yX11_takeKnots 11 := ⟨gt_t5 130 (by decide +kernel) rfl, gt_t5 132 (by decide +kernel) rfl, gt_sel 38 (by decide +kernel) rfl, _, _, rfl⟩
theorem cs_11_343 : zcS RX11 343 yX11_lengthOf := ⟨Or.inl (gt_t5 134 (by decide +kernel) rfl), gt_t5 135 (by decide +kernel) rfl⟩
theorem cv_L_147 : zcV RL 147 yX11_near 11 := ⟨gt_t5 137 (by decide +kernel) rfl, gt_t5 138 (by decide +kernel) rfl, gt_t5 139 (by decide +kernel) rfl, _, _, rfl⟩
theorem cs_11_346 : zcS RX11 346 yX11_isNear := ⟨Or.inl (gt_t5 141 (by decide +kernel) rfl), gt_t5 142 (by decide +kernel) rfl⟩
theorem cv_L_151 : zcV RL 151 yX11_measured 11 := ⟨gt_t5 144 (by decide +kernel) rfl, gt_t5 145 (by decide +kernel) rfl, gt_t5 146 (by decide +kernel) rfl, _, _, rfl⟩
theorem cs_11_350 : zcS RX11 350 yX11_measure := ⟨Or.inl (gt_t5 148 (by decide +kernel) rfl), gt_t5 149 (by decide +kernel) rfl⟩
theorem cv_11_391 : zcV RX11 391 yX1_draw 1 := ⟨gt_t5 151 (by decide +kernel) rfl, gt_t4 123 (by decide +kernel) rfl, gt_t4 124 (by decide +kernel) rfl, _, _, rfl⟩
theorem cv_L_155 : zcV RL 155 yX11_slips 11 := ⟨gt_t5 156 (by decide +kernel) rfl, gt_t5 157 (by decide +kernel) rfl, gt_t5 158 (by decide +kernel) rfl, _, _, rfl⟩
theorem cv_L_160 : zcV RL 160 yX11_sentence 11 := ⟨gt_t5 160 (by decide +kernel) rfl, gt_t5 161 (by decide +kernel) rfl, gt_t5 162 (by decide +kernel) rfl, _, _, rfl⟩
theorem cv_11_354 : zcV RX11 354 yX6_take 6 := ⟨gt_t5 164 (by decide +kernel) rfl, gt_t5 165 (by decide +kernel) rfl, gt_t5 166 (by decide +kernel) rfl, _, _, rfl⟩
theorem cv_6_37 : zcV RX6 37 yX6_clear 6 := ⟨gt_t5 168 (by decide +kernel) rfl, gt_t3 212 (by decide +kernel) rfl, gt_t3 213 (by decide +kernel) rfl, _, _, rfl⟩
theorem cv_6_40 : zcV RX6 40 yX5_step 5 := ⟨gt_t5 169 (by decide +kernel) rfl, gt_t3 114 (by decide +kernel) rfl, gt_t3 115 (by decide +kernel) rfl, _, _, rfl⟩
theorem cv_6_45 : zcV RX6 45 yX6_takeCond 6 := ⟨gt_t5 170 (by decide +kernel) rfl, gt_t5 172 (by decide +kernel) rfl, gt_sel 39 (by decide +kernel) rfl, _, _, rfl⟩
theorem cv_6_56 : zcV RX6 56 yX6_takeAll 6 := ⟨gt_t5 174 (by decide +kernel) rfl, gt_t5 176 (by decide +kernel) rfl, gt_sel 40 (by decide +kernel) rfl, _, _, rfl⟩
theorem cv_6_67 : zcV RX6 67 yX6_takeOne 6 := ⟨gt_t5 178 (by decide +kernel) rfl, gt_t5 180 (by decide +kernel) rfl, gt_sel 41 (by decide +kernel) rfl, _, _, rfl⟩
theorem cv_6_59 : zcV RX6 59 yX5_keyword 5 := ⟨gt_t5 182 (by decide +kernel) rfl, gt_t3 126 (by decide +kernel) rfl, gt_t3 127 (by decide +kernel) rfl, _, _, rfl⟩
theorem cv_6_70 : zcV RX6 70 yX5_isSign 5 := ⟨gt_t5 183 (by decide +kernel) rfl, gt_t3 155 (by decide +kernel) rfl, gt_t3 156 (by decide +kernel) rfl, _, _, rfl⟩
theorem cv_6_52 : zcV RX6 52 yX5_refuse 5 := ⟨gt_t5 184 (by decide +kernel) rfl, gt_t3 137 (by decide +kernel) rfl, gt_t3 138 (by decide +kernel) rfl, _, _, rfl⟩
theorem cv_6_74 : zcV RX6 74 yX6_takePlain 6 := ⟨gt_t5 185 (by decide +kernel) rfl, gt_t5 187 (by decide +kernel) rfl, gt_sel 42 (by decide +kernel) rfl, _, _, rfl⟩
theorem cv_6_85 : zcV RX6 85 yX5_stepName 5 := ⟨gt_t5 189 (by decide +kernel) rfl, gt_t3 168 (by decide +kernel) rfl, gt_t3 169 (by decide +kernel) rfl, _, _, rfl⟩
theorem cv_6_92 : zcV RX6 92 yX5_stepNumber 5 := ⟨gt_t5 190 (by decide +kernel) rfl, gt_t3 164 (by decide +kernel) rfl, gt_t3 165 (by decide +kernel) rfl, _, _, rfl⟩
theorem cv_6_63 : zcV RX6 63 yX6_addStep 6 := ⟨gt_t5 191 (by decide +kernel) rfl, gt_t5 193 (by decide +kernel) rfl, gt_sel 43 (by decide +kernel) rfl, _, _, rfl⟩
theorem cv_11_355 : zcV RX11 355 yX6_copy 6 := ⟨gt_t5 195 (by decide +kernel) rfl, gt_t5 196 (by decide +kernel) rfl, gt_t5 197 (by decide +kernel) rfl, _, _, rfl⟩
theorem cv_L_164 : zcV RL 164 yX11_said 11 := ⟨gt_t5 200 (by decide +kernel) rfl, gt_t5 201 (by decide +kernel) rfl, gt_t5 202 (by decide +kernel) rfl, _, _, rfl⟩
theorem cv_11_361 : zcV RX11 361 yX6_holdsFor 6 := ⟨gt_t5 204 (by decide +kernel) rfl, gt_t5 205 (by decide +kernel) rfl, gt_t5 206 (by decide +kernel) rfl, _, _, rfl⟩
theorem cv_6_105 : zcV RX6 105 yX6_plainFor 6 := ⟨gt_t5 208 (by decide +kernel) rfl, gt_t5 210 (by decide +kernel) rfl, gt_sel 44 (by decide +kernel) rfl, _, _, rfl⟩
theorem cv_6_109 : zcV RX6 109 yX6_isPlainOf 6 := ⟨gt_t5 212 (by decide +kernel) rfl, gt_t5 214 (by decide +kernel) rfl, gt_sel 45 (by decide +kernel) rfl, _, _, rfl⟩
theorem cv_6_113 : zcV RX6 113 yX4_isKnown 4 := ⟨gt_t5 216 (by decide +kernel) rfl, gt_t4 1 (by decide +kernel) rfl, gt_t4 2 (by decide +kernel) rfl, _, _, rfl⟩
theorem cv_6_117 : zcV RX6 117 yX4_hasLate 4 := ⟨gt_t5 217 (by decide +kernel) rfl, gt_t5 218 (by decide +kernel) rfl, gt_t5 219 (by decide +kernel) rfl, _, _, rfl⟩
theorem cv_6_120 : zcV RX6 120 yX4_sumFor 4 := ⟨gt_t5 221 (by decide +kernel) rfl, gt_t5 222 (by decide +kernel) rfl, gt_t5 223 (by decide +kernel) rfl, _, _, rfl⟩
theorem cv_L_168 : zcV RL 168 yX11_image 11 := ⟨gt_t5 225 (by decide +kernel) rfl, gt_t5 226 (by decide +kernel) rfl, gt_t5 227 (by decide +kernel) rfl, _, _, rfl⟩
theorem cv_11_365 : zcV RX11 365 yX3_keep 3 := ⟨gt_t5 229 (by decide +kernel) rfl, gt_t5 230 (by decide +kernel) rfl, gt_t5 231 (by decide +kernel) rfl, _, _, rfl⟩
theorem cv_3_30 : zcV RX3 30 yX9_copy 9 := ⟨gt_t5 233 (by decide +kernel) rfl, gt_t3 204 (by decide +kernel) rfl, gt_t3 205 (by decide +kernel) rfl, _, _, rfl⟩
theorem cv_3_34 : zcV RX3 34 yX0_copy 0 := ⟨gt_t5 234 (by decide +kernel) rfl, gt_t4 110 (by decide +kernel) rfl, gt_t4 111 (by decide +kernel) rfl, _, _, rfl⟩
theorem cv_3_37 : zcV RX3 37 yX6_copy 6 := ⟨gt_t5 235 (by decide +kernel) rfl, gt_t5 196 (by decide +kernel) rfl, gt_t5 197 (by decide +kernel) rfl, _, _, rfl⟩
theorem cv_L_172 : zcV RL 172 yX11_restore 11 := ⟨gt_t5 236 (by decide +kernel) rfl, gt_t5 237 (by decide +kernel) rfl, gt_t5 238 (by decide +kernel) rfl, _, _, rfl⟩
theorem cv_L_176 : zcV RL 176 yX11_count 11 := ⟨gt_t6 0 (by decide +kernel) rfl, gt_t6 1 (by decide +kernel) rfl, gt_t6 2 (by decide +kernel) rfl, _, _, rfl⟩
theorem cv_L_7 : zcV RL 7 yX11_fact 11 := ⟨gt_t6 8 (by decide +kernel) rfl, gt_t6 9 (by decide +kernel) rfl, gt_t6 10 (by decide +kernel) rfl, _, _, rfl⟩
theorem cv_L_15 : zcV RL 15 yX11_line 11 := ⟨gt_t6 76 (by decide +kernel) rfl, gt_t6 77 (by decide +kernel) rfl, gt_t6 78 (by decide +kernel) rfl, _, _, rfl⟩
theorem cv_L_18 : zcV RL 18 yX11_debt 11 := ⟨gt_t6 83 (by decide +kernel) rfl, gt_t6 84 (by decide +kernel) rfl, gt_t6 85 (by decide +kernel) rfl, _, _, rfl⟩
theorem cv_11_215 : zcV RX11 215 yX4_hasDebt 4 := ⟨gt_t6 87 (by decide +kernel) rfl, gt_t6 88 (by decide +kernel) rfl, gt_t6 89 (by decide +kernel) rfl, _, _, rfl⟩
theorem cv_11_237 : zcV RX11 237 yX4_isLate 4 := ⟨gt_t6 91 (by decide +kernel) rfl, gt_t4 158 (by decide +kernel) rfl, gt_t4 159 (by decide +kernel) rfl, _, _, rfl⟩
theorem cv_L_21 : zcV RL 21 yX11_came 11 := ⟨gt_t6 95 (by decide +kernel) rfl, gt_t6 96 (by decide +kernel) rfl, gt_t6 97 (by decide +kernel) rfl, _, _, rfl⟩
theorem cv_11_248 : zcV RX11 248 yX4_sumFor 4 := ⟨gt_t6 99 (by decide +kernel) rfl, gt_t5 222 (by decide +kernel) rfl, gt_t5 223 (by decide +kernel) rfl, _, _, rfl⟩
theorem cv_L_53 : zcV RL 53 yX12_thrown 12 := ⟨gt_t6 100 (by decide +kernel) rfl, gt_t6 101 (by decide +kernel) rfl, gt_t6 102 (by decide +kernel) rfl, _, _, rfl⟩
theorem cv_L_32 : zcV RL 32 yX12_feed 12 := ⟨gt_t6 104 (by decide +kernel) rfl, gt_t6 105 (by decide +kernel) rfl, gt_t6 106 (by decide +kernel) rfl, _, _, rfl⟩
theorem cv_12_10 : zcV RX12 10 yX12_four 12 := ⟨gt_t6 108 (by decide +kernel) rfl, gt_t6 110 (by decide +kernel) rfl, gt_sel 47 (by decide +kernel) rfl, _, _, rfl⟩
theorem cv_L_37 : zcV RL 37 yX12_end 12 := ⟨gt_t6 113 (by decide +kernel) rfl, gt_t6 114 (by decide +kernel) rfl, gt_t6 115 (by decide +kernel) rfl, _, _, rfl⟩
theorem cv_12_209 : zcV RX12 209 yX12_plainValley 12 := ⟨gt_t6 149 (by decide +kernel) rfl, gt_t6 151 (by decide +kernel) rfl, gt_sel 48 (by decide +kernel) rfl, _, _, rfl⟩
theorem cv_L_42 : zcV RL 42 yX12_valley 12 := ⟨gt_t7 131 (by decide +kernel) rfl, gt_t7 132 (by decide +kernel) rfl, gt_t7 133 (by decide +kernel) rfl, _, _, rfl⟩
theorem cv_12_304 : zcV RX12 304 yX12_taken 12 := ⟨gt_t7 135 (by decide +kernel) rfl, gt_t7 137 (by decide +kernel) rfl, gt_sel 49 (by decide +kernel) rfl, _, _, rfl⟩
theorem cv_12_251 : zcV RX12 251 yX12_next 12 := ⟨gt_t7 139 (by decide +kernel) rfl, gt_t7 141 (by decide +kernel) rfl, gt_sel 50 (by decide +kernel) rfl, _, _, rfl⟩
theorem cv_12_212 : zcV RX12 212 yX12_peek 12 := ⟨gt_t7 143 (by decide +kernel) rfl, gt_t7 145 (by decide +kernel) rfl, gt_sel 51 (by decide +kernel) rfl, _, _, rfl⟩
theorem cs_12_225 : zcS RX12 225 yX12_isSmall := ⟨Or.inl (gt_t7 147 (by decide +kernel) rfl), gt_t7 148 (by decide +kernel) rfl⟩
theorem cs_12_229 : zcS RX12 229 yX12_isDigit := ⟨Or.inl (gt_t7 150 (by decide +kernel) rfl), gt_t7 151 (by decide +kernel) rfl⟩
theorem cv_12_310 : zcV RX12 310 yX12_valleyLine 12 := ⟨gt_t7 153 (by decide +kernel) rfl, gt_t7 155 (by decide +kernel) rfl, gt_sel 52 (by decide +kernel) rfl, _, _, rfl⟩
theorem cv_12_279 : zcV RX12 279 yX12_isWord 12 := ⟨gt_t7 157 (by decide +kernel) rfl, gt_t7 159 (by decide +kernel) rfl, gt_sel 53 (by decide +kernel) rfl, _, _, rfl⟩
theorem cv_12_248 : zcV RX12 248 yX12_bad 12 := ⟨gt_t7 161 (by decide +kernel) rfl, gt_t7 163 (by decide +kernel) rfl, gt_sel 54 (by decide +kernel) rfl, _, _, rfl⟩
theorem cv_12_283 : zcV RX12 283 yX12_fresh 12 := ⟨gt_t7 165 (by decide +kernel) rfl, gt_t7 167 (by decide +kernel) rfl, gt_sel 55 (by decide +kernel) rfl, _, _, rfl⟩
theorem cv_12_261 : zcV RX12 261 yX12_isName 12 := ⟨gt_t7 169 (by decide +kernel) rfl, gt_t7 171 (by decide +kernel) rfl, gt_sel 56 (by decide +kernel) rfl, _, _, rfl⟩
theorem cv_12_265 : zcV RX12 265 yX12_find 12 := ⟨gt_t7 173 (by decide +kernel) rfl, gt_t7 175 (by decide +kernel) rfl, gt_sel 57 (by decide +kernel) rfl, _, _, rfl⟩
theorem cv_12_286 : zcV RX12 286 yX12_readFact 12 := ⟨gt_t7 177 (by decide +kernel) rfl, gt_t7 179 (by decide +kernel) rfl, gt_sel 58 (by decide +kernel) rfl, _, _, rfl⟩
theorem cv_12_276 : zcV RX12 276 yX12_takes 12 := ⟨gt_t7 181 (by decide +kernel) rfl, gt_t7 183 (by decide +kernel) rfl, gt_sel 59 (by decide +kernel) rfl, _, _, rfl⟩
theorem cs_12_254 : zcS RX12 254 yX12_isIn := ⟨Or.inl (gt_t7 185 (by decide +kernel) rfl), gt_t7 186 (by decide +kernel) rfl⟩
theorem cv_12_301 : zcV RX12 301 yX12_takesName 12 := ⟨gt_t7 188 (by decide +kernel) rfl, gt_t7 190 (by decide +kernel) rfl, gt_sel 60 (by decide +kernel) rfl, _, _, rfl⟩
theorem cv_12_289 : zcV RX12 289 yX12_readKnows 12 := ⟨gt_t7 192 (by decide +kernel) rfl, gt_t7 194 (by decide +kernel) rfl, gt_sel 61 (by decide +kernel) rfl, _, _, rfl⟩
theorem cs_12_272 : zcS RX12 272 yX12_has := ⟨Or.inl (gt_t7 196 (by decide +kernel) rfl), gt_t7 197 (by decide +kernel) rfl⟩
theorem cv_12_292 : zcV RX12 292 yX12_readSince 12 := ⟨gt_t7 199 (by decide +kernel) rfl, gt_t7 201 (by decide +kernel) rfl, gt_sel 62 (by decide +kernel) rfl, _, _, rfl⟩
theorem cv_12_295 : zcV RX12 295 yX12_readAsks 12 := ⟨gt_t7 203 (by decide +kernel) rfl, gt_t7 205 (by decide +kernel) rfl, gt_sel 63 (by decide +kernel) rfl, _, _, rfl⟩
theorem cv_12_298 : zcV RX12 298 yX12_once 12 := ⟨gt_t7 207 (by decide +kernel) rfl, gt_t7 209 (by decide +kernel) rfl, gt_sel 64 (by decide +kernel) rfl, _, _, rfl⟩
theorem cv_12_313 : zcV RX12 313 yX12_sign 12 := ⟨gt_t7 211 (by decide +kernel) rfl, gt_t7 213 (by decide +kernel) rfl, gt_sel 65 (by decide +kernel) rfl, _, _, rfl⟩
theorem cv_12_245 : zcV RX12 245 yX12_isSign 12 := ⟨gt_t7 215 (by decide +kernel) rfl, gt_t7 217 (by decide +kernel) rfl, gt_sel 66 (by decide +kernel) rfl, _, _, rfl⟩
theorem cv_L_46 : zcV RL 46 yX12_fault 12 := ⟨gt_t7 219 (by decide +kernel) rfl, gt_t7 220 (by decide +kernel) rfl, gt_t7 221 (by decide +kernel) rfl, _, _, rfl⟩
theorem cv_L_52 : zcV RL 52 yX12_fact 12 := ⟨gt_t7 223 (by decide +kernel) rfl, gt_t7 224 (by decide +kernel) rfl, gt_t7 225 (by decide +kernel) rfl, _, _, rfl⟩
theorem cv_12_316 : zcV RX12 316 yX12_isFact 12 := ⟨gt_t7 227 (by decide +kernel) rfl, gt_t7 229 (by decide +kernel) rfl, gt_sel 67 (by decide +kernel) rfl, _, _, rfl⟩
theorem cv_12_319 : zcV RX12 319 yX12_throwsIf 12 := ⟨gt_t7 231 (by decide +kernel) rfl, gt_t7 233 (by decide +kernel) rfl, gt_sel 68 (by decide +kernel) rfl, _, _, rfl⟩
theorem cv_L_63 : zcV RL 63 yX12_book 12 := ⟨gt_t7 235 (by decide +kernel) rfl, gt_t7 236 (by decide +kernel) rfl, gt_t7 237 (by decide +kernel) rfl, _, _, rfl⟩
theorem cv_12_341 : zcV RX12 341 yX12_bookLine 12 := ⟨gt_t7 239 (by decide +kernel) rfl, gt_t8 1 (by decide +kernel) rfl, gt_sel 69 (by decide +kernel) rfl, _, _, rfl⟩
theorem cv_12_329 : zcV RX12 329 yX12_put 12 := ⟨gt_t8 3 (by decide +kernel) rfl, gt_t8 5 (by decide +kernel) rfl, gt_sel 70 (by decide +kernel) rfl, _, _, rfl⟩
theorem cs_12_333 : zcS RX12 333 yX12_many := ⟨Or.inl (gt_t8 7 (by decide +kernel) rfl), gt_t8 8 (by decide +kernel) rfl⟩
theorem cv_12_337 : zcV RX12 337 yX12_withOrder 12 := ⟨gt_t8 10 (by decide +kernel) rfl, gt_t8 12 (by decide +kernel) rfl, gt_sel 71 (by decide +kernel) rfl, _, _, rfl⟩
theorem cv_12_344 : zcV RX12 344 yX12_keepBook 12 := ⟨gt_t8 14 (by decide +kernel) rfl, gt_t8 16 (by decide +kernel) rfl, gt_sel 72 (by decide +kernel) rfl, _, _, rfl⟩
theorem cv_L_67 : zcV RL 67 yX12_drawn 12 := ⟨gt_t8 18 (by decide +kernel) rfl, gt_t8 19 (by decide +kernel) rfl, gt_t8 20 (by decide +kernel) rfl, _, _, rfl⟩
theorem cv_12_351 : zcV RX12 351 yX12_draw 12 := ⟨gt_t8 22 (by decide +kernel) rfl, gt_t8 24 (by decide +kernel) rfl, gt_sel 73 (by decide +kernel) rfl, _, _, rfl⟩
theorem cv_L_70 : zcV RL 70 yX12_line 12 := ⟨gt_t8 27 (by decide +kernel) rfl, gt_t8 28 (by decide +kernel) rfl, gt_t8 29 (by decide +kernel) rfl, _, _, rfl⟩
theorem cv_L_59 : zcV RL 59 yX12_knows 12 := ⟨gt_t8 31 (by decide +kernel) rfl, gt_t8 32 (by decide +kernel) rfl, gt_t8 33 (by decide +kernel) rfl, _, _, rfl⟩
theorem cv_12_397 : zcV RX12 397 yX12_isWho 12 := ⟨gt_t8 35 (by decide +kernel) rfl, gt_t8 37 (by decide +kernel) rfl, gt_sel 74 (by decide +kernel) rfl, _, _, rfl⟩
theorem cv_12_400 : zcV RX12 400 yX12_run 12 := ⟨gt_t8 39 (by decide +kernel) rfl, gt_t8 41 (by decide +kernel) rfl, gt_sel 75 (by decide +kernel) rfl, _, _, rfl⟩
theorem cv_12_391 : zcV RX12 391 yX12_begin 12 := ⟨gt_t8 43 (by decide +kernel) rfl, gt_t8 45 (by decide +kernel) rfl, gt_sel 76 (by decide +kernel) rfl, _, _, rfl⟩
theorem cv_12_354 : zcV RX12 354 yX12_follows 12 := ⟨gt_t8 47 (by decide +kernel) rfl, gt_t8 49 (by decide +kernel) rfl, gt_sel 77 (by decide +kernel) rfl, _, _, rfl⟩
theorem cv_12_394 : zcV RX12 394 yX12_does 12 := ⟨gt_t8 51 (by decide +kernel) rfl, gt_t8 53 (by decide +kernel) rfl, gt_sel 78 (by decide +kernel) rfl, _, _, rfl⟩
theorem cv_12_379 : zcV RX12 379 yX12_whyOf 12 := ⟨gt_t8 55 (by decide +kernel) rfl, gt_t8 57 (by decide +kernel) rfl, gt_sel 79 (by decide +kernel) rfl, _, _, rfl⟩
theorem cv_12_383 : zcV RX12 383 yX12_owes 12 := ⟨gt_t8 59 (by decide +kernel) rfl, gt_t8 61 (by decide +kernel) rfl, gt_sel 80 (by decide +kernel) rfl, _, _, rfl⟩
theorem cs_12_369 : zcS RX12 369 yX12_up := ⟨Or.inl (gt_t8 63 (by decide +kernel) rfl), gt_t8 64 (by decide +kernel) rfl⟩
theorem cv_12_387 : zcV RX12 387 yX12_tells 12 := ⟨gt_t8 66 (by decide +kernel) rfl, gt_t8 68 (by decide +kernel) rfl, gt_sel 81 (by decide +kernel) rfl, _, _, rfl⟩
theorem cv_12_372 : zcV RX12 372 yX12_worthOf 12 := ⟨gt_t8 70 (by decide +kernel) rfl, gt_t8 72 (by decide +kernel) rfl, gt_sel 82 (by decide +kernel) rfl, _, _, rfl⟩
theorem cv_12_375 : zcV RX12 375 yX12_learns 12 := ⟨gt_t8 74 (by decide +kernel) rfl, gt_t8 76 (by decide +kernel) rfl, gt_sel 83 (by decide +kernel) rfl, _, _, rfl⟩
theorem cv_L_75 : zcV RL 75 yX12_wrong 12 := ⟨gt_t8 78 (by decide +kernel) rfl, gt_t8 79 (by decide +kernel) rfl, gt_t8 80 (by decide +kernel) rfl, _, _, rfl⟩
theorem cv_L_79 : zcV RL 79 yX12_debts 12 := ⟨gt_t8 82 (by decide +kernel) rfl, gt_t8 83 (by decide +kernel) rfl, gt_t8 84 (by decide +kernel) rfl, _, _, rfl⟩
theorem cv_L_82 : zcV RL 82 yX12_debt 12 := ⟨gt_t8 86 (by decide +kernel) rfl, gt_t8 87 (by decide +kernel) rfl, gt_t8 88 (by decide +kernel) rfl, _, _, rfl⟩
theorem cv_12_403 : zcV RX12 403 yX12_isLate 12 := ⟨gt_t8 90 (by decide +kernel) rfl, gt_t8 92 (by decide +kernel) rfl, gt_sel 84 (by decide +kernel) rfl, _, _, rfl⟩
theorem cv_L_86 : zcV RL 86 yX12_worth 12 := ⟨gt_t8 94 (by decide +kernel) rfl, gt_t8 95 (by decide +kernel) rfl, gt_t8 96 (by decide +kernel) rfl, _, _, rfl⟩
theorem cv_L_89 : zcV RL 89 yX12_came 12 := ⟨gt_t8 98 (by decide +kernel) rfl, gt_t8 99 (by decide +kernel) rfl, gt_t8 100 (by decide +kernel) rfl, _, _, rfl⟩
theorem cv_12_406 : zcV RX12 406 yX12_cameOf 12 := ⟨gt_t8 102 (by decide +kernel) rfl, gt_t8 104 (by decide +kernel) rfl, gt_sel 85 (by decide +kernel) rfl, _, _, rfl⟩
theorem cv_L_93 : zcV RL 93 yX12_autumn 12 := ⟨gt_t8 106 (by decide +kernel) rfl, gt_t8 107 (by decide +kernel) rfl, gt_t8 108 (by decide +kernel) rfl, _, _, rfl⟩
theorem cv_12_409 : zcV RX12 409 yX12_owedAll 12 := ⟨gt_t8 110 (by decide +kernel) rfl, gt_t8 112 (by decide +kernel) rfl, gt_sel 86 (by decide +kernel) rfl, _, _, rfl⟩
theorem cv_L_97 : zcV RL 97 yX12_feast 12 := ⟨gt_t8 114 (by decide +kernel) rfl, gt_t8 115 (by decide +kernel) rfl, gt_t8 116 (by decide +kernel) rfl, _, _, rfl⟩
theorem cv_12_419 : zcV RX12 419 yX12_feasts 12 := ⟨gt_t8 118 (by decide +kernel) rfl, gt_t8 120 (by decide +kernel) rfl, gt_sel 87 (by decide +kernel) rfl, _, _, rfl⟩
theorem cv_12_415 : zcV RX12 415 yX12_mayPay 12 := ⟨gt_t8 122 (by decide +kernel) rfl, gt_t8 124 (by decide +kernel) rfl, gt_sel 88 (by decide +kernel) rfl, _, _, rfl⟩
theorem cv_L_101 : zcV RL 101 yX12_feastAt 12 := ⟨gt_t8 127 (by decide +kernel) rfl, gt_t8 128 (by decide +kernel) rfl, gt_t8 129 (by decide +kernel) rfl, _, _, rfl⟩
theorem cv_L_105 : zcV RL 105 yX12_needs 12 := ⟨gt_t8 131 (by decide +kernel) rfl, gt_t8 132 (by decide +kernel) rfl, gt_t8 133 (by decide +kernel) rfl, _, _, rfl⟩
theorem cv_12_444 : zcV RX12 444 yX12_needed 12 := ⟨gt_t8 135 (by decide +kernel) rfl, gt_t8 137 (by decide +kernel) rfl, gt_sel 89 (by decide +kernel) rfl, _, _, rfl⟩
theorem cv_12_429 : zcV RX12 429 yX12_duesOf 12 := ⟨gt_t8 139 (by decide +kernel) rfl, gt_t8 141 (by decide +kernel) rfl, gt_sel 90 (by decide +kernel) rfl, _, _, rfl⟩
theorem cv_12_438 : zcV RX12 438 yX12_price 12 := ⟨gt_t8 144 (by decide +kernel) rfl, gt_t8 146 (by decide +kernel) rfl, gt_sel 91 (by decide +kernel) rfl, _, _, rfl⟩
theorem cv_12_441 : zcV RX12 441 yX12_canPay 12 := ⟨gt_t8 148 (by decide +kernel) rfl, gt_t8 150 (by decide +kernel) rfl, gt_sel 92 (by decide +kernel) rfl, _, _, rfl⟩
theorem cv_L_109 : zcV RL 109 yX12_buys 12 := ⟨gt_t8 152 (by decide +kernel) rfl, gt_t8 153 (by decide +kernel) rfl, gt_t8 154 (by decide +kernel) rfl, _, _, rfl⟩
theorem cv_L_113 : zcV RL 113 yX12_terms 12 := ⟨gt_t8 156 (by decide +kernel) rfl, gt_t8 157 (by decide +kernel) rfl, gt_t8 158 (by decide +kernel) rfl, _, _, rfl⟩
theorem cv_L_117 : zcV RL 117 yX12_source 12 := ⟨gt_t8 160 (by decide +kernel) rfl, gt_t8 161 (by decide +kernel) rfl, gt_t8 162 (by decide +kernel) rfl, _, _, rfl⟩
theorem cv_L_121 : zcV RL 121 yX12_led 12 := ⟨gt_t8 164 (by decide +kernel) rfl, gt_t8 165 (by decide +kernel) rfl, gt_t8 166 (by decide +kernel) rfl, _, _, rfl⟩
theorem cv_L_125 : zcV RL 125 yX12_order 12 := ⟨gt_t8 168 (by decide +kernel) rfl, gt_t8 169 (by decide +kernel) rfl, gt_t8 170 (by decide +kernel) rfl, _, _, rfl⟩
theorem cv_12_448 : zcV RX12 448 yX12_octet 12 := ⟨gt_t8 172 (by decide +kernel) rfl, gt_t8 174 (by decide +kernel) rfl, gt_sel 93 (by decide +kernel) rfl, _, _, rfl⟩
theorem cv_L_129 : zcV RL 129 yX12_orderAt 12 := ⟨gt_t8 176 (by decide +kernel) rfl, gt_t8 177 (by decide +kernel) rfl, gt_t8 178 (by decide +kernel) rfl, _, _, rfl⟩
theorem cv_L_134 : zcV RL 134 yX12_ripple 12 := ⟨gt_t8 180 (by decide +kernel) rfl, gt_t8 181 (by decide +kernel) rfl, gt_t8 182 (by decide +kernel) rfl, _, _, rfl⟩
theorem cv_L_138 : zcV RL 138 yX12_unsaid 12 := ⟨gt_t8 184 (by decide +kernel) rfl, gt_t8 185 (by decide +kernel) rfl, gt_t8 186 (by decide +kernel) rfl, _, _, rfl⟩
theorem cv_L_142 : zcV RL 142 yX12_cord 12 := ⟨gt_t8 188 (by decide +kernel) rfl, gt_t8 189 (by decide +kernel) rfl, gt_t8 190 (by decide +kernel) rfl, _, _, rfl⟩
theorem cv_12_454 : zcV RX12 454 yX12_lay 12 := ⟨gt_t8 192 (by decide +kernel) rfl, gt_t8 194 (by decide +kernel) rfl, gt_sel 94 (by decide +kernel) rfl, _, _, rfl⟩
theorem cv_L_146 : zcV RL 146 yX12_read 12 := ⟨gt_t8 196 (by decide +kernel) rfl, gt_t8 197 (by decide +kernel) rfl, gt_t8 198 (by decide +kernel) rfl, _, _, rfl⟩
theorem cv_12_457 : zcV RX12 457 yX12_takesCord 12 := ⟨gt_t8 200 (by decide +kernel) rfl, gt_t8 202 (by decide +kernel) rfl, gt_sel 95 (by decide +kernel) rfl, _, _, rfl⟩
theorem cv_12_460 : zcV RX12 460 yX12_readSeen 12 := ⟨gt_t8 204 (by decide +kernel) rfl, gt_t8 206 (by decide +kernel) rfl, gt_sel 96 (by decide +kernel) rfl, _, _, rfl⟩
theorem cv_L_150 : zcV RL 150 yX12_near 12 := ⟨gt_t8 208 (by decide +kernel) rfl, gt_t8 209 (by decide +kernel) rfl, gt_t8 210 (by decide +kernel) rfl, _, _, rfl⟩
theorem cv_L_154 : zcV RL 154 yX12_measured 12 := ⟨gt_t8 212 (by decide +kernel) rfl, gt_t8 213 (by decide +kernel) rfl, gt_t8 214 (by decide +kernel) rfl, _, _, rfl⟩
theorem cv_12_463 : zcV RX12 463 yX12_measure 12 := ⟨gt_t8 216 (by decide +kernel) rfl, gt_t8 218 (by decide +kernel) rfl, gt_sel 97 (by decide +kernel) rfl, _, _, rfl⟩
theorem cv_L_159 : zcV RL 159 yX12_slips 12 := ⟨gt_t8 220 (by decide +kernel) rfl, gt_t8 221 (by decide +kernel) rfl, gt_t8 222 (by decide +kernel) rfl, _, _, rfl⟩
theorem cv_L_163 : zcV RL 163 yX12_sentence 12 := ⟨gt_t8 224 (by decide +kernel) rfl, gt_t8 225 (by decide +kernel) rfl, gt_t8 226 (by decide +kernel) rfl, _, _, rfl⟩
theorem cv_12_499 : zcV RX12 499 yX12_cond 12 := ⟨gt_t8 228 (by decide +kernel) rfl, gt_t8 230 (by decide +kernel) rfl, gt_sel 98 (by decide +kernel) rfl, _, _, rfl⟩
theorem cv_12_478 : zcV RX12 478 yX12_one 12 := ⟨gt_t8 232 (by decide +kernel) rfl, gt_t8 234 (by decide +kernel) rfl, gt_sel 99 (by decide +kernel) rfl, _, _, rfl⟩
theorem cv_12_487 : zcV RX12 487 yX12_atom 12 := ⟨gt_t8 236 (by decide +kernel) rfl, gt_t8 238 (by decide +kernel) rfl, gt_sel 100 (by decide +kernel) rfl, _, _, rfl⟩
theorem cv_12_493 : zcV RX12 493 yX12_opened 12 := ⟨gt_t9 0 (by decide +kernel) rfl, gt_t9 2 (by decide +kernel) rfl, gt_sel 101 (by decide +kernel) rfl, _, _, rfl⟩
theorem cv_12_496 : zcV RX12 496 yX12_asks 12 := ⟨gt_t9 4 (by decide +kernel) rfl, gt_t9 6 (by decide +kernel) rfl, gt_sel 102 (by decide +kernel) rfl, _, _, rfl⟩
theorem cv_12_475 : zcV RX12 475 yX12_write 12 := ⟨gt_t9 8 (by decide +kernel) rfl, gt_t9 10 (by decide +kernel) rfl, gt_sel 103 (by decide +kernel) rfl, _, _, rfl⟩
theorem cv_12_484 : zcV RX12 484 yX12_writeDown 12 := ⟨gt_t9 12 (by decide +kernel) rfl, gt_t9 14 (by decide +kernel) rfl, gt_sel 104 (by decide +kernel) rfl, _, _, rfl⟩
theorem cs_12_472 : zcS RX12 472 yX12_binds := ⟨Or.inl (gt_t9 16 (by decide +kernel) rfl), gt_t9 17 (by decide +kernel) rfl⟩
theorem cv_12_481 : zcV RX12 481 yX12_isOpen 12 := ⟨gt_t9 19 (by decide +kernel) rfl, gt_t9 21 (by decide +kernel) rfl, gt_sel 105 (by decide +kernel) rfl, _, _, rfl⟩
theorem cv_L_167 : zcV RL 167 yX12_said 12 := ⟨gt_t9 23 (by decide +kernel) rfl, gt_t9 24 (by decide +kernel) rfl, gt_t9 25 (by decide +kernel) rfl, _, _, rfl⟩
theorem cv_12_506 : zcV RX12 506 yX12_isSaid 12 := ⟨gt_t9 27 (by decide +kernel) rfl, gt_t9 29 (by decide +kernel) rfl, gt_sel 106 (by decide +kernel) rfl, _, _, rfl⟩
theorem cv_12_502 : zcV RX12 502 yX12_so 12 := ⟨gt_t9 31 (by decide +kernel) rfl, gt_t9 33 (by decide +kernel) rfl, gt_sel 107 (by decide +kernel) rfl, _, _, rfl⟩
theorem cv_L_171 : zcV RL 171 yX12_image 12 := ⟨gt_t9 35 (by decide +kernel) rfl, gt_t9 36 (by decide +kernel) rfl, gt_t9 37 (by decide +kernel) rfl, _, _, rfl⟩
theorem cv_L_175 : zcV RL 175 yX12_restore 12 := ⟨gt_t9 39 (by decide +kernel) rfl, gt_t9 40 (by decide +kernel) rfl, gt_t9 41 (by decide +kernel) rfl, _, _, rfl⟩
theorem cv_L_179 : zcV RL 179 yX12_count 12 := ⟨gt_t9 43 (by decide +kernel) rfl, gt_t9 44 (by decide +kernel) rfl, gt_t9 45 (by decide +kernel) rfl, _, _, rfl⟩
theorem mm_min : Cond.static Lib.Math.min.name ∈ gt ∧ Cond.initialized "java/lang/Math" ∈ gt ∧ Cond.code Lib.Math.min.name Lib.Math.min.code 2 (some .int) ∈ gt := ⟨gt_t3 103 (by decide +kernel) rfl, gt_t1 20 (by decide +kernel) rfl, gt_t3 104 (by decide +kernel) rfl⟩
theorem mm_max : Cond.static Lib.Math.max.name ∈ gt ∧ Cond.initialized "java/lang/Math" ∈ gt ∧ Cond.code Lib.Math.max.name Lib.Math.max.code 2 (some .int) ∈ gt := ⟨gt_t5 154 (by decide +kernel) rfl, gt_t1 20 (by decide +kernel) rfl, gt_t5 155 (by decide +kernel) rfl⟩
theorem mm_minl : Cond.static Lib.MathLoose.min_long.x ∈ gt ∧ Cond.initialized "java/lang/Math" ∈ gt ∧ Cond.code Lib.MathLoose.min_long.x Lib.MathLoose.min_long.code 4 (some .long) ∈ gt := ⟨gt_t4 207 (by decide +kernel) rfl, gt_t1 20 (by decide +kernel) rfl, gt_t4 208 (by decide +kernel) rfl⟩
theorem ac_ok : Cond.native arraycopyName ∈ gt ∧ Cond.static arraycopyName ∈ gt ∧ Cond.initialized "java/lang/System" ∈ gt := ⟨gt_t1 156 (by decide +kernel) rfl, gt_t1 155 (by decide +kernel) rfl, gt_t1 10 (by decide +kernel) rfl⟩
theorem ac_9_51 : Cond.methodLink RX9 51 arraycopyName ∈ gt := gt_t1 154 (by decide +kernel) rfl
theorem mm_5_36 : Cond.methodLink RX5 36 Lib.Math.min.name ∈ gt := gt_t3 102 (by decide +kernel) rfl
theorem ac_0_40 : Cond.methodLink RX0 40 arraycopyName ∈ gt := gt_t4 113 (by decide +kernel) rfl
theorem mm_2_64 : Cond.methodLink RX2 64 Lib.MathLoose.min_long.x ∈ gt := gt_t4 206 (by decide +kernel) rfl
theorem mm_10_54 : Cond.methodLink RX10 54 Lib.Math.min.name ∈ gt := gt_t5 8 (by decide +kernel) rfl
theorem ac_4_169 : Cond.methodLink RX4 169 arraycopyName ∈ gt := gt_t5 62 (by decide +kernel) rfl
theorem ac_8_66 : Cond.methodLink RX8 66 arraycopyName ∈ gt := gt_t5 81 (by decide +kernel) rfl
theorem mm_11_393 : Cond.methodLink RX11 393 Lib.Math.min.name ∈ gt := gt_t5 152 (by decide +kernel) rfl
theorem mm_11_398 : Cond.methodLink RX11 398 Lib.Math.max.name ∈ gt := gt_t5 153 (by decide +kernel) rfl
theorem ac_6_31 : Cond.methodLink RX6 31 arraycopyName ∈ gt := gt_t5 199 (by decide +kernel) rfl
theorem kc_J6_265 : Cond.constant "java/lang/Integer" 265 (iv 1431655765) ∈ gt := gt_t4 11 (by decide +kernel) rfl
theorem kc_J6_266 : Cond.constant "java/lang/Integer" 266 (iv 858993459) ∈ gt := gt_t4 12 (by decide +kernel) rfl
theorem kc_J6_267 : Cond.constant "java/lang/Integer" 267 (iv 252645135) ∈ gt := gt_t4 13 (by decide +kernel) rfl
theorem kc_1_13 : Cond.constant RX1 13 (iv 1103515245) ∈ gt := gt_t4 126 (by decide +kernel) rfl
theorem kl_2_34 : Cond.constantLong RX2 34 (jv 1152921504606846976) ∈ gt := gt_t4 195 (by decide +kernel) rfl
theorem kl_2_104 : Cond.constantLong RX2 104 (jv 4398046511104) ∈ gt := gt_t4 213 (by decide +kernel) rfl
theorem kl_2_106 : Cond.constantLong RX2 106 (jv 15) ∈ gt := gt_t4 214 (by decide +kernel) rfl
theorem kc_10_31 : Cond.constant RX10 31 (iv 1073741824) ∈ gt := gt_t4 235 (by decide +kernel) rfl
theorem kc_11_281 : Cond.constant RX11 281 (iv 1073741824) ∈ gt := gt_t5 9 (by decide +kernel) rfl
theorem kc_8_54 : Cond.constant RX8 54 (iv 1073741824) ∈ gt := gt_t5 63 (by decide +kernel) rfl
theorem kc_12_107 : Cond.constant RX12 107 (iv 36864) ∈ gt := gt_t6 122 (by decide +kernel) rfl
theorem kl_12_157 : Cond.constantLong RX12 157 (jv 7825519) ∈ gt := gt_t6 123 (by decide +kernel) rfl
theorem kl_12_159 : Cond.constantLong RX12 159 (jv 1717658484) ∈ gt := gt_t6 124 (by decide +kernel) rfl
theorem kl_12_161 : Cond.constantLong RX12 161 (jv 461414299507) ∈ gt := gt_t6 125 (by decide +kernel) rfl
theorem kl_12_163 : Cond.constantLong RX12 163 (jv 495690081125) ∈ gt := gt_t6 126 (by decide +kernel) rfl
theorem kl_12_165 : Cond.constantLong RX12 165 (jv 1634954099) ∈ gt := gt_t6 127 (by decide +kernel) rfl
theorem kl_12_167 : Cond.constantLong RX12 167 (jv 1836019566) ∈ gt := gt_t6 128 (by decide +kernel) rfl
theorem kl_12_169 : Cond.constantLong RX12 169 (jv 7302244) ∈ gt := gt_t6 129 (by decide +kernel) rfl
theorem kl_12_171 : Cond.constantLong RX12 171 (jv 126879297332596) ∈ gt := gt_t6 130 (by decide +kernel) rfl
theorem kl_12_173 : Cond.constantLong RX12 173 (jv 126896627347060) ∈ gt := gt_t6 131 (by decide +kernel) rfl
theorem kl_12_175 : Cond.constantLong RX12 175 (jv 439956631140) ∈ gt := gt_t6 132 (by decide +kernel) rfl
theorem kl_12_177 : Cond.constantLong RX12 177 (jv 6578553) ∈ gt := gt_t6 133 (by decide +kernel) rfl
theorem kl_12_179 : Cond.constantLong RX12 179 (jv 1818846579) ∈ gt := gt_t6 134 (by decide +kernel) rfl
theorem kl_12_181 : Cond.constantLong RX12 181 (jv 2003399784) ∈ gt := gt_t6 135 (by decide +kernel) rfl
theorem kl_12_183 : Cond.constantLong RX12 183 (jv 448444786035) ∈ gt := gt_t6 136 (by decide +kernel) rfl
theorem kl_12_185 : Cond.constantLong RX12 185 (jv 499917810803) ∈ gt := gt_t6 137 (by decide +kernel) rfl
theorem kl_12_187 : Cond.constantLong RX12 187 (jv 495622843507) ∈ gt := gt_t6 138 (by decide +kernel) rfl
theorem kl_12_189 : Cond.constantLong RX12 189 (jv 28530) ∈ gt := gt_t6 139 (by decide +kernel) rfl
theorem kl_12_191 : Cond.constantLong RX12 191 (jv 6385252) ∈ gt := gt_t6 140 (by decide +kernel) rfl
theorem kl_12_193 : Cond.constantLong RX12 193 (jv 7237492) ∈ gt := gt_t6 141 (by decide +kernel) rfl
theorem kl_12_195 : Cond.constantLong RX12 195 (jv 6840691) ∈ gt := gt_t6 142 (by decide +kernel) rfl
theorem kl_12_197 : Cond.constantLong RX12 197 (jv 1818326117) ∈ gt := gt_t6 143 (by decide +kernel) rfl
theorem kl_12_199 : Cond.constantLong RX12 199 (jv 1870095731) ∈ gt := gt_t6 144 (by decide +kernel) rfl
theorem kl_12_201 : Cond.constantLong RX12 201 (jv 431197680755) ∈ gt := gt_t6 145 (by decide +kernel) rfl
theorem kl_12_203 : Cond.constantLong RX12 203 (jv 1885432164) ∈ gt := gt_t6 146 (by decide +kernel) rfl
theorem kl_12_205 : Cond.constantLong RX12 205 (jv 1752527476) ∈ gt := gt_t6 147 (by decide +kernel) rfl
theorem kl_12_207 : Cond.constantLong RX12 207 (jv 427070942835) ∈ gt := gt_t6 148 (by decide +kernel) rfl
theorem kc_12_350 : Cond.constant RX12 350 (iv 1103515245) ∈ gt := gt_t8 26 (by decide +kernel) rfl
theorem kc_12_418 : Cond.constant RX12 418 (iv 100000) ∈ gt := gt_t8 126 (by decide +kernel) rfl
theorem kc_12_428 : Cond.constant RX12 428 (iv 1000000000) ∈ gt := gt_t8 143 (by decide +kernel) rfl
