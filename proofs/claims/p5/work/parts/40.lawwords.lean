set_option maxRecDepth 20000 in
theorem lwu_X0 : GoodIn lw_tbl wsX00 := goodIn_r _ [441, 443, 445, 447, 449, 451] rfl (by decide +kernel)
theorem inX0 : ∀ w ∈ wsX00, w ∈ lw_tbl := fun w h => (lwu_X0 w h).1
set_option maxRecDepth 20000 in
theorem lwu_X1 : GoodIn lw_tbl wsX10 := goodIn_r _ [399, 401, 403, 405] rfl (by decide +kernel)
theorem inX1 : ∀ w ∈ wsX10, w ∈ lw_tbl := fun w h => (lwu_X1 w h).1
set_option maxRecDepth 20000 in
theorem lwu_X2 : GoodIn lw_tbl wsX20 := goodIn_r _ [377, 379, 381, 383] rfl (by decide +kernel)
theorem inX2 : ∀ w ∈ wsX20, w ∈ lw_tbl := fun w h => (lwu_X2 w h).1
set_option maxRecDepth 20000 in
theorem lwu_X3 : GoodIn lw_tbl wsX30 := goodIn_r _ [468, 470, 472] rfl (by decide +kernel)
theorem inX3 : ∀ w ∈ wsX30, w ∈ lw_tbl := fun w h => (lwu_X3 w h).1
set_option maxRecDepth 20000 in
theorem lwu_X4 : GoodIn lw_tbl wsX40 := goodIn_r _ [503, 505, 507, 509] rfl (by decide +kernel)
theorem inX4 : ∀ w ∈ wsX40, w ∈ lw_tbl := fun w h => (lwu_X4 w h).1
set_option maxRecDepth 20000 in
theorem lwu_X5 : GoodIn lw_tbl wsX50 := goodIn_r _ [246, 248, 250, 252, 254, 256, 258, 260, 262, 264, 266, 268, 270, 272, 274, 276] rfl (by decide +kernel)
theorem inX5 : ∀ w ∈ wsX50, w ∈ lw_tbl := fun w h => (lwu_X5 w h).1
set_option maxRecDepth 20000 in
theorem lwu_X6 : GoodIn lw_tbl wsX60 := goodIn_r _ [162, 164, 166, 168, 170, 172, 174, 176, 178, 180] rfl (by decide +kernel)
theorem inX6 : ∀ w ∈ wsX60, w ∈ lw_tbl := fun w h => (lwu_X6 w h).1
set_option maxRecDepth 20000 in
theorem lwu_X7 : GoodIn lw_tbl wsX70 := goodIn_r _ [351, 353, 355, 357, 359, 361] rfl (by decide +kernel)
theorem inX7 : ∀ w ∈ wsX70, w ∈ lw_tbl := fun w h => (lwu_X7 w h).1
set_option maxRecDepth 20000 in
theorem lwu_X8 : GoodIn lw_tbl wsX80 := goodIn_r _ [421, 423, 425] rfl (by decide +kernel)
theorem inX8 : ∀ w ∈ wsX80, w ∈ lw_tbl := fun w h => (lwu_X8 w h).1
set_option maxRecDepth 20000 in
theorem lwu_X9 : GoodIn lw_tbl wsX90 := goodIn_r _ [312, 314, 316, 318, 320, 322, 324, 326, 328, 330, 332] rfl (by decide +kernel)
theorem inX9 : ∀ w ∈ wsX90, w ∈ lw_tbl := fun w h => (lwu_X9 w h).1
set_option maxRecDepth 20000 in
theorem lwu_X11 : GoodIn lw_tbl wsX110 := goodIn_r _ [528, 530, 532, 534, 536, 538, 540, 542, 544, 546, 548, 550, 552, 554, 556] rfl (by decide +kernel)
theorem inX11 : ∀ w ∈ wsX110, w ∈ lw_tbl := fun w h => (lwu_X11 w h).1
set_option maxRecDepth 20000 in
theorem lwu_X12 : GoodIn lw_tbl wsX120 := goodIn_r _ [1475, 1477, 1479, 1481, 1483, 1485, 1487, 1489, 1491, 1493, 1495, 1497, 1499, 1501, 1503, 1505, 1507, 1509, 1511, 1513, 1515, 1517, 1519, 1521, 1523, 1525, 1527, 1529, 1531, 1533, 1535, 1537, 1539, 1541, 1543, 1545, 1547, 1549, 1551, 1553, 1555, 1557, 1559, 1561, 1563, 1565, 1567, 1569] rfl (by decide +kernel)
theorem inX12 : ∀ w ∈ wsX120, w ∈ lw_tbl := fun w h => (lwu_X12 w h).1
set_option maxRecDepth 20000 in
theorem wsL_law_x0 : ∀ w ∈ (vx_at0 RX11 143 "java/util/NoSuchElementException" ["java/lang/RuntimeException", "java/lang/Exception"]).filter goodWord, w ∈ lw_tbl := by decide +kernel
set_option maxRecDepth 20000 in
theorem lw_x : GoodIn lw_tbl ((vx_at0 RX11 143 "java/util/NoSuchElementException" ["java/lang/RuntimeException", "java/lang/Exception"]).filter goodWord) := goodIn_sub wsL_law_x0 (by decide +kernel)
