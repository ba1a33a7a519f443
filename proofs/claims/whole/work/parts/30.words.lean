/-! THE LAW'S START: the pure machine's words are the Statement's; a pure run of the law is the claim's walk. -/
def st_b (ps : List Nat) (l : List Jvm.Cond) : Bool := decide (l.length = ps.length) && (l.zip ps).all (fun q => decide (lw_tbl[q.2]? = some q.1))
theorem st_in {ps : List Nat} {l : List Jvm.Cond} (h : st_b ps l = true) : ∀ w ∈ l, w ∈ lw_tbl := by
  unfold st_b at h
  rw [Bool.and_eq_true] at h
  obtain ⟨h1, h2⟩ := h
  have h1 := of_decide_eq_true h1
  intro w hw
  obtain ⟨i, hi⟩ := List.getElem?_of_mem hw
  have hl := (List.getElem?_eq_some_iff.mp hi).1
  obtain ⟨j, hj⟩ : ∃ j, ps[i]? = some j := ⟨_, List.getElem?_eq_getElem (by omega)⟩
  have hz : (l.zip ps)[i]? = some (w, j) := by rw [List.getElem?_zip_eq_some]; exact ⟨hi, hj⟩
  exact List.mem_of_getElem? (of_decide_eq_true (List.all_eq_true.mp h2 _ (List.mem_of_getElem? hz)))
def tb_mt (M : Nat) : List Jvm.Cond := (tb_mw M).drop 1
theorem st_m0 : st_b [48, 78, 49, 86, 50, 100, 51, 119, 52, 137, 53, 156, 54, 203, 55, 211, 55, 216, 52, 219, 220, 48, 223, 55, 226, 55, 229, 48, 280, 281, 49, 284, 285, 49, 288, 289, 49, 292, 293, 48, 296, 297, 49, 300, 301, 48, 304, 305, 50, 308, 309, 50, 313, 0, 49, 317, 318, 51, 321, 322, 50, 325, 326, 50, 329, 330, 50, 334, 1, 50, 339, 2, 58, 342, 343, 58, 346, 347] ((List.range 30).flatMap (fun i => tb_mt (i + 0))) = true := by decide +kernel
theorem st_m1 : st_b [50, 393, 3, 50, 396, 397, 50, 401, 4, 50, 405, 5, 50, 408, 50, 413, 6, 50, 418, 7, 62, 423, 50, 435, 8, 50, 438, 62, 441, 442, 63, 447, 50, 488, 489, 50, 492, 493, 64, 498, 50, 515, 9, 65, 521, 62, 538, 539, 62, 544, 545, 64, 549, 550, 64, 554, 555, 52, 558, 559, 50, 562, 563, 63, 566, 567, 48, 574, 10, 51, 578, 579, 63, 582, 583, 67, 586, 62, 589, 590, 51, 593, 594] ((List.range 30).flatMap (fun i => tb_mt (i + 30))) = true := by decide +kernel
theorem st_m2 : st_b [51, 597, 598, 51, 601, 602, 53, 605, 606, 48, 609, 610, 51, 613, 614, 51, 617, 618, 51, 621, 622, 48, 625, 626, 52, 631, 632, 52, 637, 638, 48, 641, 642, 52, 646, 647, 48, 650, 651, 53, 654, 655, 53, 659, 11, 51, 664, 665, 53, 669, 12, 52, 673, 674, 53, 678, 13, 52, 681, 682, 53, 686, 14, 64, 690, 691, 65, 694, 695, 53, 700, 15, 53, 704, 16, 53, 708, 17, 53, 712, 18, 53, 716, 19, 53, 720, 20, 53, 724, 21] ((List.range 30).flatMap (fun i => tb_mt (i + 60))) = true := by decide +kernel
theorem st_m3 : st_b [53, 728, 22, 53, 732, 23, 53, 736, 24, 54, 739, 740, 48, 744, 25, 55, 747, 748, 55, 751, 752, 53, 755, 756, 48, 760, 26, 53, 763, 764, 53, 767, 768, 55, 776, 777, 63, 780, 781, 63, 784, 785, 54, 788, 789, 54, 794, 27, 55, 799, 800, 54, 804, 28, 48, 807, 808, 54, 811, 812, 54, 815, 816, 48, 820, 821, 74, 824, 48, 830, 831, 55, 834, 835, 48, 838, 839, 54, 842, 843, 54, 846, 847, 54, 850, 851, 48, 854, 855] ((List.range 30).flatMap (fun i => tb_mt (i + 90))) = true := by decide +kernel
theorem st_m4 : st_b [48, 860, 861, 48, 866, 867, 48, 871, 872, 54, 875, 876, 54, 879, 880, 56, 885, 57, 898, 56, 990, 991, 56, 995, 29, 56, 998, 999, 56, 1002, 1003, 56, 1007, 30, 56, 1011, 31, 68, 1074, 56, 1119, 56, 1135, 69, 1140, 56, 1157, 56, 1211, 56, 1214, 56, 1217, 56, 1221, 32, 56, 1225, 56, 1229, 33, 72, 1233, 56, 1256, 34, 56, 1261, 56, 1312, 56, 1316, 56, 1319] ((List.range 30).flatMap (fun i => tb_mt (i + 120))) = true := by decide +kernel
theorem st_m5 : st_b [56, 1323, 35, 56, 1326, 56, 1329, 1330, 56, 1333, 1334, 56, 1338, 36, 56, 1341, 1342, 56, 1345, 1346, 56, 1350, 37, 56, 1354, 38, 56, 1358, 39, 56, 1361, 56, 1364, 56, 1367, 56, 1370, 56, 1374, 40, 56, 1378, 41, 56, 1382, 42, 56, 1385, 1386, 56, 1390, 43, 56, 1394, 44, 56, 1397, 56, 1401, 45, 56, 1404, 56, 1408, 46, 57, 1411, 1412, 56, 1415, 1416, 56, 1419, 1420, 56, 1423, 1424, 56, 1427, 1428, 56, 1431, 1432] ((List.range 30).flatMap (fun i => tb_mt (i + 150))) = true := by decide +kernel
theorem st_m6 : st_b [56, 1435, 1436, 56, 1439, 1440, 58, 352, 353, 58, 356, 357, 59, 360, 58, 363, 60, 368, 58, 1124, 1125, 59, 1129, 58, 1160, 1161, 58, 1165, 60, 1168, 59, 1171, 70, 1176, 70, 1179, 70, 1182, 58, 1196, 58, 1015, 58, 1018, 58, 1021, 60, 1024, 58, 1027, 61, 1032, 61, 1035, 61, 1058, 58, 1265, 1266, 58, 1269, 1270, 73, 1273] ((List.range 28).flatMap (fun i => tb_mt (i + 180))) = true := by decide +kernel
theorem st_c0 : lw_tbl[79]? = some (Jvm.Cond.code (tb_y 0) (tb_code 0) (tb_max 0) (tb_ret 0)) := by decide +kernel
theorem st_c1 : lw_tbl[87]? = some (Jvm.Cond.code (tb_y 1) (tb_code 1) (tb_max 1) (tb_ret 1)) := by decide +kernel
theorem st_c2 : lw_tbl[101]? = some (Jvm.Cond.code (tb_y 2) (tb_code 2) (tb_max 2) (tb_ret 2)) := by decide +kernel
theorem st_c3 : lw_tbl[120]? = some (Jvm.Cond.code (tb_y 3) (tb_code 3) (tb_max 3) (tb_ret 3)) := by decide +kernel
theorem st_c4 : lw_tbl[138]? = some (Jvm.Cond.code (tb_y 4) (tb_code 4) (tb_max 4) (tb_ret 4)) := by decide +kernel
theorem st_c5 : lw_tbl[157]? = some (Jvm.Cond.code (tb_y 5) (tb_code 5) (tb_max 5) (tb_ret 5)) := by decide +kernel
theorem st_c6 : lw_tbl[204]? = some (Jvm.Cond.code (tb_y 6) (tb_code 6) (tb_max 6) (tb_ret 6)) := by decide +kernel
theorem st_c7 : lw_tbl[212]? = some (Jvm.Cond.code (tb_y 7) (tb_code 7) (tb_max 7) (tb_ret 7)) := by decide +kernel
theorem st_c8 : lw_tbl[217]? = some (Jvm.Cond.code (tb_y 8) (tb_code 8) (tb_max 8) (tb_ret 8)) := by decide +kernel
theorem st_c9 : lw_tbl[221]? = some (Jvm.Cond.code (tb_y 9) (tb_code 9) (tb_max 9) (tb_ret 9)) := by decide +kernel
theorem st_c10 : lw_tbl[224]? = some (Jvm.Cond.code (tb_y 10) (tb_code 10) (tb_max 10) (tb_ret 10)) := by decide +kernel
theorem st_c11 : lw_tbl[227]? = some (Jvm.Cond.code (tb_y 11) (tb_code 11) (tb_max 11) (tb_ret 11)) := by decide +kernel
theorem st_c12 : lw_tbl[230]? = some (Jvm.Cond.code (tb_y 12) (tb_code 12) (tb_max 12) (tb_ret 12)) := by decide +kernel
theorem st_c13 : lw_tbl[282]? = some (Jvm.Cond.code (tb_y 13) (tb_code 13) (tb_max 13) (tb_ret 13)) := by decide +kernel
theorem st_c14 : lw_tbl[286]? = some (Jvm.Cond.code (tb_y 14) (tb_code 14) (tb_max 14) (tb_ret 14)) := by decide +kernel
theorem st_c15 : lw_tbl[290]? = some (Jvm.Cond.code (tb_y 15) (tb_code 15) (tb_max 15) (tb_ret 15)) := by decide +kernel
theorem st_c16 : lw_tbl[294]? = some (Jvm.Cond.code (tb_y 16) (tb_code 16) (tb_max 16) (tb_ret 16)) := by decide +kernel
theorem st_c17 : lw_tbl[298]? = some (Jvm.Cond.code (tb_y 17) (tb_code 17) (tb_max 17) (tb_ret 17)) := by decide +kernel
theorem st_c18 : lw_tbl[302]? = some (Jvm.Cond.code (tb_y 18) (tb_code 18) (tb_max 18) (tb_ret 18)) := by decide +kernel
theorem st_c19 : lw_tbl[306]? = some (Jvm.Cond.code (tb_y 19) (tb_code 19) (tb_max 19) (tb_ret 19)) := by decide +kernel
theorem st_c20 : lw_tbl[310]? = some (Jvm.Cond.code (tb_y 20) (tb_code 20) (tb_max 20) (tb_ret 20)) := by decide +kernel
theorem st_c21 : lw_tbl[314]? = some (Jvm.Cond.code (tb_y 21) (tb_code 21) (tb_max 21) (tb_ret 21)) := by decide +kernel
theorem st_c22 : lw_tbl[319]? = some (Jvm.Cond.code (tb_y 22) (tb_code 22) (tb_max 22) (tb_ret 22)) := by decide +kernel
theorem st_c23 : lw_tbl[323]? = some (Jvm.Cond.code (tb_y 23) (tb_code 23) (tb_max 23) (tb_ret 23)) := by decide +kernel
theorem st_c24 : lw_tbl[327]? = some (Jvm.Cond.code (tb_y 24) (tb_code 24) (tb_max 24) (tb_ret 24)) := by decide +kernel
theorem st_c25 : lw_tbl[331]? = some (Jvm.Cond.code (tb_y 25) (tb_code 25) (tb_max 25) (tb_ret 25)) := by decide +kernel
theorem st_c26 : lw_tbl[335]? = some (Jvm.Cond.code (tb_y 26) (tb_code 26) (tb_max 26) (tb_ret 26)) := by decide +kernel
theorem st_c27 : lw_tbl[340]? = some (Jvm.Cond.code (tb_y 27) (tb_code 27) (tb_max 27) (tb_ret 27)) := by decide +kernel
theorem st_c28 : lw_tbl[344]? = some (Jvm.Cond.code (tb_y 28) (tb_code 28) (tb_max 28) (tb_ret 28)) := by decide +kernel
theorem st_c29 : lw_tbl[348]? = some (Jvm.Cond.code (tb_y 29) (tb_code 29) (tb_max 29) (tb_ret 29)) := by decide +kernel
theorem st_c30 : lw_tbl[394]? = some (Jvm.Cond.code (tb_y 30) (tb_code 30) (tb_max 30) (tb_ret 30)) := by decide +kernel
theorem st_c31 : lw_tbl[398]? = some (Jvm.Cond.code (tb_y 31) (tb_code 31) (tb_max 31) (tb_ret 31)) := by decide +kernel
theorem st_c32 : lw_tbl[402]? = some (Jvm.Cond.code (tb_y 32) (tb_code 32) (tb_max 32) (tb_ret 32)) := by decide +kernel
theorem st_c33 : lw_tbl[406]? = some (Jvm.Cond.code (tb_y 33) (tb_code 33) (tb_max 33) (tb_ret 33)) := by decide +kernel
theorem st_c34 : lw_tbl[409]? = some (Jvm.Cond.code (tb_y 34) (tb_code 34) (tb_max 34) (tb_ret 34)) := by decide +kernel
theorem st_c35 : lw_tbl[414]? = some (Jvm.Cond.code (tb_y 35) (tb_code 35) (tb_max 35) (tb_ret 35)) := by decide +kernel
theorem st_c36 : lw_tbl[419]? = some (Jvm.Cond.code (tb_y 36) (tb_code 36) (tb_max 36) (tb_ret 36)) := by decide +kernel
theorem st_c37 : lw_tbl[424]? = some (Jvm.Cond.code (tb_y 37) (tb_code 37) (tb_max 37) (tb_ret 37)) := by decide +kernel
theorem st_c38 : lw_tbl[436]? = some (Jvm.Cond.code (tb_y 38) (tb_code 38) (tb_max 38) (tb_ret 38)) := by decide +kernel
theorem st_c39 : lw_tbl[439]? = some (Jvm.Cond.code (tb_y 39) (tb_code 39) (tb_max 39) (tb_ret 39)) := by decide +kernel
theorem st_c40 : lw_tbl[443]? = some (Jvm.Cond.code (tb_y 40) (tb_code 40) (tb_max 40) (tb_ret 40)) := by decide +kernel
theorem st_c41 : lw_tbl[448]? = some (Jvm.Cond.code (tb_y 41) (tb_code 41) (tb_max 41) (tb_ret 41)) := by decide +kernel
theorem st_c42 : lw_tbl[490]? = some (Jvm.Cond.code (tb_y 42) (tb_code 42) (tb_max 42) (tb_ret 42)) := by decide +kernel
theorem st_c43 : lw_tbl[494]? = some (Jvm.Cond.code (tb_y 43) (tb_code 43) (tb_max 43) (tb_ret 43)) := by decide +kernel
theorem st_c44 : lw_tbl[499]? = some (Jvm.Cond.code (tb_y 44) (tb_code 44) (tb_max 44) (tb_ret 44)) := by decide +kernel
theorem st_c45 : lw_tbl[516]? = some (Jvm.Cond.code (tb_y 45) (tb_code 45) (tb_max 45) (tb_ret 45)) := by decide +kernel
theorem st_c46 : lw_tbl[522]? = some (Jvm.Cond.code (tb_y 46) (tb_code 46) (tb_max 46) (tb_ret 46)) := by decide +kernel
theorem st_c47 : lw_tbl[540]? = some (Jvm.Cond.code (tb_y 47) (tb_code 47) (tb_max 47) (tb_ret 47)) := by decide +kernel
theorem st_c48 : lw_tbl[546]? = some (Jvm.Cond.code (tb_y 48) (tb_code 48) (tb_max 48) (tb_ret 48)) := by decide +kernel
theorem st_c49 : lw_tbl[551]? = some (Jvm.Cond.code (tb_y 49) (tb_code 49) (tb_max 49) (tb_ret 49)) := by decide +kernel
theorem st_c50 : lw_tbl[556]? = some (Jvm.Cond.code (tb_y 50) (tb_code 50) (tb_max 50) (tb_ret 50)) := by decide +kernel
theorem st_c51 : lw_tbl[560]? = some (Jvm.Cond.code (tb_y 51) (tb_code 51) (tb_max 51) (tb_ret 51)) := by decide +kernel
theorem st_c52 : lw_tbl[564]? = some (Jvm.Cond.code (tb_y 52) (tb_code 52) (tb_max 52) (tb_ret 52)) := by decide +kernel
theorem st_c53 : lw_tbl[568]? = some (Jvm.Cond.code (tb_y 53) (tb_code 53) (tb_max 53) (tb_ret 53)) := by decide +kernel
theorem st_c54 : lw_tbl[575]? = some (Jvm.Cond.code (tb_y 54) (tb_code 54) (tb_max 54) (tb_ret 54)) := by decide +kernel
theorem st_c55 : lw_tbl[580]? = some (Jvm.Cond.code (tb_y 55) (tb_code 55) (tb_max 55) (tb_ret 55)) := by decide +kernel
theorem st_c56 : lw_tbl[584]? = some (Jvm.Cond.code (tb_y 56) (tb_code 56) (tb_max 56) (tb_ret 56)) := by decide +kernel
theorem st_c57 : lw_tbl[587]? = some (Jvm.Cond.code (tb_y 57) (tb_code 57) (tb_max 57) (tb_ret 57)) := by decide +kernel
theorem st_c58 : lw_tbl[591]? = some (Jvm.Cond.code (tb_y 58) (tb_code 58) (tb_max 58) (tb_ret 58)) := by decide +kernel
theorem st_c59 : lw_tbl[595]? = some (Jvm.Cond.code (tb_y 59) (tb_code 59) (tb_max 59) (tb_ret 59)) := by decide +kernel
theorem st_c60 : lw_tbl[599]? = some (Jvm.Cond.code (tb_y 60) (tb_code 60) (tb_max 60) (tb_ret 60)) := by decide +kernel
theorem st_c61 : lw_tbl[603]? = some (Jvm.Cond.code (tb_y 61) (tb_code 61) (tb_max 61) (tb_ret 61)) := by decide +kernel
theorem st_c62 : lw_tbl[607]? = some (Jvm.Cond.code (tb_y 62) (tb_code 62) (tb_max 62) (tb_ret 62)) := by decide +kernel
theorem st_c63 : lw_tbl[611]? = some (Jvm.Cond.code (tb_y 63) (tb_code 63) (tb_max 63) (tb_ret 63)) := by decide +kernel
theorem st_c64 : lw_tbl[615]? = some (Jvm.Cond.code (tb_y 64) (tb_code 64) (tb_max 64) (tb_ret 64)) := by decide +kernel
theorem st_c65 : lw_tbl[619]? = some (Jvm.Cond.code (tb_y 65) (tb_code 65) (tb_max 65) (tb_ret 65)) := by decide +kernel
theorem st_c66 : lw_tbl[623]? = some (Jvm.Cond.code (tb_y 66) (tb_code 66) (tb_max 66) (tb_ret 66)) := by decide +kernel
theorem st_c67 : lw_tbl[627]? = some (Jvm.Cond.code (tb_y 67) (tb_code 67) (tb_max 67) (tb_ret 67)) := by decide +kernel
theorem st_c68 : lw_tbl[633]? = some (Jvm.Cond.code (tb_y 68) (tb_code 68) (tb_max 68) (tb_ret 68)) := by decide +kernel
theorem st_c69 : lw_tbl[639]? = some (Jvm.Cond.code (tb_y 69) (tb_code 69) (tb_max 69) (tb_ret 69)) := by decide +kernel
theorem st_c70 : lw_tbl[643]? = some (Jvm.Cond.code (tb_y 70) (tb_code 70) (tb_max 70) (tb_ret 70)) := by decide +kernel
theorem st_c71 : lw_tbl[648]? = some (Jvm.Cond.code (tb_y 71) (tb_code 71) (tb_max 71) (tb_ret 71)) := by decide +kernel
theorem st_c72 : lw_tbl[652]? = some (Jvm.Cond.code (tb_y 72) (tb_code 72) (tb_max 72) (tb_ret 72)) := by decide +kernel
theorem st_c73 : lw_tbl[656]? = some (Jvm.Cond.code (tb_y 73) (tb_code 73) (tb_max 73) (tb_ret 73)) := by decide +kernel
theorem st_c74 : lw_tbl[660]? = some (Jvm.Cond.code (tb_y 74) (tb_code 74) (tb_max 74) (tb_ret 74)) := by decide +kernel
theorem st_c75 : lw_tbl[666]? = some (Jvm.Cond.code (tb_y 75) (tb_code 75) (tb_max 75) (tb_ret 75)) := by decide +kernel
theorem st_c76 : lw_tbl[670]? = some (Jvm.Cond.code (tb_y 76) (tb_code 76) (tb_max 76) (tb_ret 76)) := by decide +kernel
theorem st_c77 : lw_tbl[675]? = some (Jvm.Cond.code (tb_y 77) (tb_code 77) (tb_max 77) (tb_ret 77)) := by decide +kernel
theorem st_c78 : lw_tbl[679]? = some (Jvm.Cond.code (tb_y 78) (tb_code 78) (tb_max 78) (tb_ret 78)) := by decide +kernel
theorem st_c79 : lw_tbl[683]? = some (Jvm.Cond.code (tb_y 79) (tb_code 79) (tb_max 79) (tb_ret 79)) := by decide +kernel
theorem st_c80 : lw_tbl[687]? = some (Jvm.Cond.code (tb_y 80) (tb_code 80) (tb_max 80) (tb_ret 80)) := by decide +kernel
theorem st_c81 : lw_tbl[692]? = some (Jvm.Cond.code (tb_y 81) (tb_code 81) (tb_max 81) (tb_ret 81)) := by decide +kernel
theorem st_c82 : lw_tbl[696]? = some (Jvm.Cond.code (tb_y 82) (tb_code 82) (tb_max 82) (tb_ret 82)) := by decide +kernel
theorem st_c83 : lw_tbl[701]? = some (Jvm.Cond.code (tb_y 83) (tb_code 83) (tb_max 83) (tb_ret 83)) := by decide +kernel
theorem st_c84 : lw_tbl[705]? = some (Jvm.Cond.code (tb_y 84) (tb_code 84) (tb_max 84) (tb_ret 84)) := by decide +kernel
theorem st_c85 : lw_tbl[709]? = some (Jvm.Cond.code (tb_y 85) (tb_code 85) (tb_max 85) (tb_ret 85)) := by decide +kernel
theorem st_c86 : lw_tbl[713]? = some (Jvm.Cond.code (tb_y 86) (tb_code 86) (tb_max 86) (tb_ret 86)) := by decide +kernel
theorem st_c87 : lw_tbl[717]? = some (Jvm.Cond.code (tb_y 87) (tb_code 87) (tb_max 87) (tb_ret 87)) := by decide +kernel
theorem st_c88 : lw_tbl[721]? = some (Jvm.Cond.code (tb_y 88) (tb_code 88) (tb_max 88) (tb_ret 88)) := by decide +kernel
theorem st_c89 : lw_tbl[725]? = some (Jvm.Cond.code (tb_y 89) (tb_code 89) (tb_max 89) (tb_ret 89)) := by decide +kernel
theorem st_c90 : lw_tbl[729]? = some (Jvm.Cond.code (tb_y 90) (tb_code 90) (tb_max 90) (tb_ret 90)) := by decide +kernel
theorem st_c91 : lw_tbl[733]? = some (Jvm.Cond.code (tb_y 91) (tb_code 91) (tb_max 91) (tb_ret 91)) := by decide +kernel
theorem st_c92 : lw_tbl[737]? = some (Jvm.Cond.code (tb_y 92) (tb_code 92) (tb_max 92) (tb_ret 92)) := by decide +kernel
theorem st_c93 : lw_tbl[741]? = some (Jvm.Cond.code (tb_y 93) (tb_code 93) (tb_max 93) (tb_ret 93)) := by decide +kernel
theorem st_c94 : lw_tbl[745]? = some (Jvm.Cond.code (tb_y 94) (tb_code 94) (tb_max 94) (tb_ret 94)) := by decide +kernel
theorem st_c95 : lw_tbl[749]? = some (Jvm.Cond.code (tb_y 95) (tb_code 95) (tb_max 95) (tb_ret 95)) := by decide +kernel
theorem st_c96 : lw_tbl[753]? = some (Jvm.Cond.code (tb_y 96) (tb_code 96) (tb_max 96) (tb_ret 96)) := by decide +kernel
theorem st_c97 : lw_tbl[757]? = some (Jvm.Cond.code (tb_y 97) (tb_code 97) (tb_max 97) (tb_ret 97)) := by decide +kernel
theorem st_c98 : lw_tbl[761]? = some (Jvm.Cond.code (tb_y 98) (tb_code 98) (tb_max 98) (tb_ret 98)) := by decide +kernel
theorem st_c99 : lw_tbl[765]? = some (Jvm.Cond.code (tb_y 99) (tb_code 99) (tb_max 99) (tb_ret 99)) := by decide +kernel
theorem st_c100 : lw_tbl[769]? = some (Jvm.Cond.code (tb_y 100) (tb_code 100) (tb_max 100) (tb_ret 100)) := by decide +kernel
theorem st_c101 : lw_tbl[778]? = some (Jvm.Cond.code (tb_y 101) (tb_code 101) (tb_max 101) (tb_ret 101)) := by decide +kernel
theorem st_c102 : lw_tbl[782]? = some (Jvm.Cond.code (tb_y 102) (tb_code 102) (tb_max 102) (tb_ret 102)) := by decide +kernel
theorem st_c103 : lw_tbl[786]? = some (Jvm.Cond.code (tb_y 103) (tb_code 103) (tb_max 103) (tb_ret 103)) := by decide +kernel
theorem st_c104 : lw_tbl[790]? = some (Jvm.Cond.code (tb_y 104) (tb_code 104) (tb_max 104) (tb_ret 104)) := by decide +kernel
theorem st_c105 : lw_tbl[795]? = some (Jvm.Cond.code (tb_y 105) (tb_code 105) (tb_max 105) (tb_ret 105)) := by decide +kernel
theorem st_c106 : lw_tbl[801]? = some (Jvm.Cond.code (tb_y 106) (tb_code 106) (tb_max 106) (tb_ret 106)) := by decide +kernel
theorem st_c107 : lw_tbl[805]? = some (Jvm.Cond.code (tb_y 107) (tb_code 107) (tb_max 107) (tb_ret 107)) := by decide +kernel
theorem st_c108 : lw_tbl[809]? = some (Jvm.Cond.code (tb_y 108) (tb_code 108) (tb_max 108) (tb_ret 108)) := by decide +kernel
theorem st_c109 : lw_tbl[813]? = some (Jvm.Cond.code (tb_y 109) (tb_code 109) (tb_max 109) (tb_ret 109)) := by decide +kernel
theorem st_c110 : lw_tbl[817]? = some (Jvm.Cond.code (tb_y 110) (tb_code 110) (tb_max 110) (tb_ret 110)) := by decide +kernel
theorem st_c111 : lw_tbl[822]? = some (Jvm.Cond.code (tb_y 111) (tb_code 111) (tb_max 111) (tb_ret 111)) := by decide +kernel
theorem st_c112 : lw_tbl[825]? = some (Jvm.Cond.code (tb_y 112) (tb_code 112) (tb_max 112) (tb_ret 112)) := by decide +kernel
theorem st_c113 : lw_tbl[832]? = some (Jvm.Cond.code (tb_y 113) (tb_code 113) (tb_max 113) (tb_ret 113)) := by decide +kernel
theorem st_c114 : lw_tbl[836]? = some (Jvm.Cond.code (tb_y 114) (tb_code 114) (tb_max 114) (tb_ret 114)) := by decide +kernel
theorem st_c115 : lw_tbl[840]? = some (Jvm.Cond.code (tb_y 115) (tb_code 115) (tb_max 115) (tb_ret 115)) := by decide +kernel
theorem st_c116 : lw_tbl[844]? = some (Jvm.Cond.code (tb_y 116) (tb_code 116) (tb_max 116) (tb_ret 116)) := by decide +kernel
theorem st_c117 : lw_tbl[848]? = some (Jvm.Cond.code (tb_y 117) (tb_code 117) (tb_max 117) (tb_ret 117)) := by decide +kernel
theorem st_c118 : lw_tbl[852]? = some (Jvm.Cond.code (tb_y 118) (tb_code 118) (tb_max 118) (tb_ret 118)) := by decide +kernel
theorem st_c119 : lw_tbl[856]? = some (Jvm.Cond.code (tb_y 119) (tb_code 119) (tb_max 119) (tb_ret 119)) := by decide +kernel
theorem st_c120 : lw_tbl[862]? = some (Jvm.Cond.code (tb_y 120) (tb_code 120) (tb_max 120) (tb_ret 120)) := by decide +kernel
theorem st_c121 : lw_tbl[868]? = some (Jvm.Cond.code (tb_y 121) (tb_code 121) (tb_max 121) (tb_ret 121)) := by decide +kernel
theorem st_c122 : lw_tbl[873]? = some (Jvm.Cond.code (tb_y 122) (tb_code 122) (tb_max 122) (tb_ret 122)) := by decide +kernel
theorem st_c123 : lw_tbl[877]? = some (Jvm.Cond.code (tb_y 123) (tb_code 123) (tb_max 123) (tb_ret 123)) := by decide +kernel
theorem st_c124 : lw_tbl[881]? = some (Jvm.Cond.code (tb_y 124) (tb_code 124) (tb_max 124) (tb_ret 124)) := by decide +kernel
theorem st_c125 : lw_tbl[886]? = some (Jvm.Cond.code (tb_y 125) (tb_code 125) (tb_max 125) (tb_ret 125)) := by decide +kernel
theorem st_c126 : lw_tbl[899]? = some (Jvm.Cond.code (tb_y 126) (tb_code 126) (tb_max 126) (tb_ret 126)) := by decide +kernel
theorem st_c127 : lw_tbl[992]? = some (Jvm.Cond.code (tb_y 127) (tb_code 127) (tb_max 127) (tb_ret 127)) := by decide +kernel
theorem st_c128 : lw_tbl[996]? = some (Jvm.Cond.code (tb_y 128) (tb_code 128) (tb_max 128) (tb_ret 128)) := by decide +kernel
theorem st_c129 : lw_tbl[1000]? = some (Jvm.Cond.code (tb_y 129) (tb_code 129) (tb_max 129) (tb_ret 129)) := by decide +kernel
theorem st_c130 : lw_tbl[1004]? = some (Jvm.Cond.code (tb_y 130) (tb_code 130) (tb_max 130) (tb_ret 130)) := by decide +kernel
theorem st_c131 : lw_tbl[1008]? = some (Jvm.Cond.code (tb_y 131) (tb_code 131) (tb_max 131) (tb_ret 131)) := by decide +kernel
theorem st_c132 : lw_tbl[1012]? = some (Jvm.Cond.code (tb_y 132) (tb_code 132) (tb_max 132) (tb_ret 132)) := by decide +kernel
theorem st_c133 : lw_tbl[1075]? = some (Jvm.Cond.code (tb_y 133) (tb_code 133) (tb_max 133) (tb_ret 133)) := by decide +kernel
theorem st_c134 : lw_tbl[1120]? = some (Jvm.Cond.code (tb_y 134) (tb_code 134) (tb_max 134) (tb_ret 134)) := by decide +kernel
theorem st_c135 : lw_tbl[1136]? = some (Jvm.Cond.code (tb_y 135) (tb_code 135) (tb_max 135) (tb_ret 135)) := by decide +kernel
theorem st_c136 : lw_tbl[1141]? = some (Jvm.Cond.code (tb_y 136) (tb_code 136) (tb_max 136) (tb_ret 136)) := by decide +kernel
theorem st_c137 : lw_tbl[1158]? = some (Jvm.Cond.code (tb_y 137) (tb_code 137) (tb_max 137) (tb_ret 137)) := by decide +kernel
theorem st_c138 : lw_tbl[1212]? = some (Jvm.Cond.code (tb_y 138) (tb_code 138) (tb_max 138) (tb_ret 138)) := by decide +kernel
theorem st_c139 : lw_tbl[1215]? = some (Jvm.Cond.code (tb_y 139) (tb_code 139) (tb_max 139) (tb_ret 139)) := by decide +kernel
theorem st_c140 : lw_tbl[1218]? = some (Jvm.Cond.code (tb_y 140) (tb_code 140) (tb_max 140) (tb_ret 140)) := by decide +kernel
theorem st_c141 : lw_tbl[1222]? = some (Jvm.Cond.code (tb_y 141) (tb_code 141) (tb_max 141) (tb_ret 141)) := by decide +kernel
theorem st_c142 : lw_tbl[1226]? = some (Jvm.Cond.code (tb_y 142) (tb_code 142) (tb_max 142) (tb_ret 142)) := by decide +kernel
theorem st_c143 : lw_tbl[1230]? = some (Jvm.Cond.code (tb_y 143) (tb_code 143) (tb_max 143) (tb_ret 143)) := by decide +kernel
theorem st_c144 : lw_tbl[1234]? = some (Jvm.Cond.code (tb_y 144) (tb_code 144) (tb_max 144) (tb_ret 144)) := by decide +kernel
theorem st_c145 : lw_tbl[1257]? = some (Jvm.Cond.code (tb_y 145) (tb_code 145) (tb_max 145) (tb_ret 145)) := by decide +kernel
theorem st_c146 : lw_tbl[1262]? = some (Jvm.Cond.code (tb_y 146) (tb_code 146) (tb_max 146) (tb_ret 146)) := by decide +kernel
theorem st_c147 : lw_tbl[1313]? = some (Jvm.Cond.code (tb_y 147) (tb_code 147) (tb_max 147) (tb_ret 147)) := by decide +kernel
theorem st_c148 : lw_tbl[1317]? = some (Jvm.Cond.code (tb_y 148) (tb_code 148) (tb_max 148) (tb_ret 148)) := by decide +kernel
theorem st_c149 : lw_tbl[1320]? = some (Jvm.Cond.code (tb_y 149) (tb_code 149) (tb_max 149) (tb_ret 149)) := by decide +kernel
theorem st_c150 : lw_tbl[1324]? = some (Jvm.Cond.code (tb_y 150) (tb_code 150) (tb_max 150) (tb_ret 150)) := by decide +kernel
theorem st_c151 : lw_tbl[1327]? = some (Jvm.Cond.code (tb_y 151) (tb_code 151) (tb_max 151) (tb_ret 151)) := by decide +kernel
theorem st_c152 : lw_tbl[1331]? = some (Jvm.Cond.code (tb_y 152) (tb_code 152) (tb_max 152) (tb_ret 152)) := by decide +kernel
theorem st_c153 : lw_tbl[1335]? = some (Jvm.Cond.code (tb_y 153) (tb_code 153) (tb_max 153) (tb_ret 153)) := by decide +kernel
theorem st_c154 : lw_tbl[1339]? = some (Jvm.Cond.code (tb_y 154) (tb_code 154) (tb_max 154) (tb_ret 154)) := by decide +kernel
theorem st_c155 : lw_tbl[1343]? = some (Jvm.Cond.code (tb_y 155) (tb_code 155) (tb_max 155) (tb_ret 155)) := by decide +kernel
theorem st_c156 : lw_tbl[1347]? = some (Jvm.Cond.code (tb_y 156) (tb_code 156) (tb_max 156) (tb_ret 156)) := by decide +kernel
theorem st_c157 : lw_tbl[1351]? = some (Jvm.Cond.code (tb_y 157) (tb_code 157) (tb_max 157) (tb_ret 157)) := by decide +kernel
theorem st_c158 : lw_tbl[1355]? = some (Jvm.Cond.code (tb_y 158) (tb_code 158) (tb_max 158) (tb_ret 158)) := by decide +kernel
theorem st_c159 : lw_tbl[1359]? = some (Jvm.Cond.code (tb_y 159) (tb_code 159) (tb_max 159) (tb_ret 159)) := by decide +kernel
theorem st_c160 : lw_tbl[1362]? = some (Jvm.Cond.code (tb_y 160) (tb_code 160) (tb_max 160) (tb_ret 160)) := by decide +kernel
theorem st_c161 : lw_tbl[1365]? = some (Jvm.Cond.code (tb_y 161) (tb_code 161) (tb_max 161) (tb_ret 161)) := by decide +kernel
theorem st_c162 : lw_tbl[1368]? = some (Jvm.Cond.code (tb_y 162) (tb_code 162) (tb_max 162) (tb_ret 162)) := by decide +kernel
theorem st_c163 : lw_tbl[1371]? = some (Jvm.Cond.code (tb_y 163) (tb_code 163) (tb_max 163) (tb_ret 163)) := by decide +kernel
theorem st_c164 : lw_tbl[1375]? = some (Jvm.Cond.code (tb_y 164) (tb_code 164) (tb_max 164) (tb_ret 164)) := by decide +kernel
theorem st_c165 : lw_tbl[1379]? = some (Jvm.Cond.code (tb_y 165) (tb_code 165) (tb_max 165) (tb_ret 165)) := by decide +kernel
theorem st_c166 : lw_tbl[1383]? = some (Jvm.Cond.code (tb_y 166) (tb_code 166) (tb_max 166) (tb_ret 166)) := by decide +kernel
theorem st_c167 : lw_tbl[1387]? = some (Jvm.Cond.code (tb_y 167) (tb_code 167) (tb_max 167) (tb_ret 167)) := by decide +kernel
theorem st_c168 : lw_tbl[1391]? = some (Jvm.Cond.code (tb_y 168) (tb_code 168) (tb_max 168) (tb_ret 168)) := by decide +kernel
theorem st_c169 : lw_tbl[1395]? = some (Jvm.Cond.code (tb_y 169) (tb_code 169) (tb_max 169) (tb_ret 169)) := by decide +kernel
theorem st_c170 : lw_tbl[1398]? = some (Jvm.Cond.code (tb_y 170) (tb_code 170) (tb_max 170) (tb_ret 170)) := by decide +kernel
theorem st_c171 : lw_tbl[1402]? = some (Jvm.Cond.code (tb_y 171) (tb_code 171) (tb_max 171) (tb_ret 171)) := by decide +kernel
theorem st_c172 : lw_tbl[1405]? = some (Jvm.Cond.code (tb_y 172) (tb_code 172) (tb_max 172) (tb_ret 172)) := by decide +kernel
theorem st_c173 : lw_tbl[1409]? = some (Jvm.Cond.code (tb_y 173) (tb_code 173) (tb_max 173) (tb_ret 173)) := by decide +kernel
theorem st_c174 : lw_tbl[1413]? = some (Jvm.Cond.code (tb_y 174) (tb_code 174) (tb_max 174) (tb_ret 174)) := by decide +kernel
theorem st_c175 : lw_tbl[1417]? = some (Jvm.Cond.code (tb_y 175) (tb_code 175) (tb_max 175) (tb_ret 175)) := by decide +kernel
theorem st_c176 : lw_tbl[1421]? = some (Jvm.Cond.code (tb_y 176) (tb_code 176) (tb_max 176) (tb_ret 176)) := by decide +kernel
theorem st_c177 : lw_tbl[1425]? = some (Jvm.Cond.code (tb_y 177) (tb_code 177) (tb_max 177) (tb_ret 177)) := by decide +kernel
theorem st_c178 : lw_tbl[1429]? = some (Jvm.Cond.code (tb_y 178) (tb_code 178) (tb_max 178) (tb_ret 178)) := by decide +kernel
theorem st_c179 : lw_tbl[1433]? = some (Jvm.Cond.code (tb_y 179) (tb_code 179) (tb_max 179) (tb_ret 179)) := by decide +kernel
theorem st_c180 : lw_tbl[1437]? = some (Jvm.Cond.code (tb_y 180) (tb_code 180) (tb_max 180) (tb_ret 180)) := by decide +kernel
theorem st_c181 : lw_tbl[1441]? = some (Jvm.Cond.code (tb_y 181) (tb_code 181) (tb_max 181) (tb_ret 181)) := by decide +kernel
theorem st_c182 : lw_tbl[354]? = some (Jvm.Cond.code (tb_y 182) (tb_code 182) (tb_max 182) (tb_ret 182)) := by decide +kernel
theorem st_c183 : lw_tbl[358]? = some (Jvm.Cond.code (tb_y 183) (tb_code 183) (tb_max 183) (tb_ret 183)) := by decide +kernel
theorem st_c184 : lw_tbl[361]? = some (Jvm.Cond.code (tb_y 184) (tb_code 184) (tb_max 184) (tb_ret 184)) := by decide +kernel
theorem st_c185 : lw_tbl[364]? = some (Jvm.Cond.code (tb_y 185) (tb_code 185) (tb_max 185) (tb_ret 185)) := by decide +kernel
theorem st_c186 : lw_tbl[369]? = some (Jvm.Cond.code (tb_y 186) (tb_code 186) (tb_max 186) (tb_ret 186)) := by decide +kernel
theorem st_c187 : lw_tbl[1126]? = some (Jvm.Cond.code (tb_y 187) (tb_code 187) (tb_max 187) (tb_ret 187)) := by decide +kernel
theorem st_c188 : lw_tbl[1130]? = some (Jvm.Cond.code (tb_y 188) (tb_code 188) (tb_max 188) (tb_ret 188)) := by decide +kernel
theorem st_c189 : lw_tbl[1162]? = some (Jvm.Cond.code (tb_y 189) (tb_code 189) (tb_max 189) (tb_ret 189)) := by decide +kernel
theorem st_c190 : lw_tbl[1166]? = some (Jvm.Cond.code (tb_y 190) (tb_code 190) (tb_max 190) (tb_ret 190)) := by decide +kernel
theorem st_c191 : lw_tbl[1169]? = some (Jvm.Cond.code (tb_y 191) (tb_code 191) (tb_max 191) (tb_ret 191)) := by decide +kernel
theorem st_c192 : lw_tbl[1172]? = some (Jvm.Cond.code (tb_y 192) (tb_code 192) (tb_max 192) (tb_ret 192)) := by decide +kernel
theorem st_c193 : lw_tbl[1177]? = some (Jvm.Cond.code (tb_y 193) (tb_code 193) (tb_max 193) (tb_ret 193)) := by decide +kernel
theorem st_c194 : lw_tbl[1180]? = some (Jvm.Cond.code (tb_y 194) (tb_code 194) (tb_max 194) (tb_ret 194)) := by decide +kernel
theorem st_c195 : lw_tbl[1183]? = some (Jvm.Cond.code (tb_y 195) (tb_code 195) (tb_max 195) (tb_ret 195)) := by decide +kernel
theorem st_c196 : lw_tbl[1197]? = some (Jvm.Cond.code (tb_y 196) (tb_code 196) (tb_max 196) (tb_ret 196)) := by decide +kernel
theorem st_c197 : lw_tbl[1016]? = some (Jvm.Cond.code (tb_y 197) (tb_code 197) (tb_max 197) (tb_ret 197)) := by decide +kernel
theorem st_c198 : lw_tbl[1019]? = some (Jvm.Cond.code (tb_y 198) (tb_code 198) (tb_max 198) (tb_ret 198)) := by decide +kernel
theorem st_c199 : lw_tbl[1022]? = some (Jvm.Cond.code (tb_y 199) (tb_code 199) (tb_max 199) (tb_ret 199)) := by decide +kernel
theorem st_c200 : lw_tbl[1025]? = some (Jvm.Cond.code (tb_y 200) (tb_code 200) (tb_max 200) (tb_ret 200)) := by decide +kernel
theorem st_c201 : lw_tbl[1028]? = some (Jvm.Cond.code (tb_y 201) (tb_code 201) (tb_max 201) (tb_ret 201)) := by decide +kernel
theorem st_c202 : lw_tbl[1033]? = some (Jvm.Cond.code (tb_y 202) (tb_code 202) (tb_max 202) (tb_ret 202)) := by decide +kernel
theorem st_c203 : lw_tbl[1036]? = some (Jvm.Cond.code (tb_y 203) (tb_code 203) (tb_max 203) (tb_ret 203)) := by decide +kernel
theorem st_c204 : lw_tbl[1059]? = some (Jvm.Cond.code (tb_y 204) (tb_code 204) (tb_max 204) (tb_ret 204)) := by decide +kernel
theorem st_c205 : lw_tbl[1267]? = some (Jvm.Cond.code (tb_y 205) (tb_code 205) (tb_max 205) (tb_ret 205)) := by decide +kernel
theorem st_c206 : lw_tbl[1271]? = some (Jvm.Cond.code (tb_y 206) (tb_code 206) (tb_max 206) (tb_ret 206)) := by decide +kernel
theorem st_c207 : lw_tbl[1274]? = some (Jvm.Cond.code (tb_y 207) (tb_code 207) (tb_max 207) (tb_ret 207)) := by decide +kernel
theorem st_c (M : Nat) (h : M < tb_nc) : Jvm.Cond.code (tb_y M) (tb_code M) (tb_max M) (tb_ret M) ∈ lw_tbl := match M, h with
  | 0, _ => List.mem_of_getElem? st_c0
  | 1, _ => List.mem_of_getElem? st_c1
  | 2, _ => List.mem_of_getElem? st_c2
  | 3, _ => List.mem_of_getElem? st_c3
  | 4, _ => List.mem_of_getElem? st_c4
  | 5, _ => List.mem_of_getElem? st_c5
  | 6, _ => List.mem_of_getElem? st_c6
  | 7, _ => List.mem_of_getElem? st_c7
  | 8, _ => List.mem_of_getElem? st_c8
  | 9, _ => List.mem_of_getElem? st_c9
  | 10, _ => List.mem_of_getElem? st_c10
  | 11, _ => List.mem_of_getElem? st_c11
  | 12, _ => List.mem_of_getElem? st_c12
  | 13, _ => List.mem_of_getElem? st_c13
  | 14, _ => List.mem_of_getElem? st_c14
  | 15, _ => List.mem_of_getElem? st_c15
  | 16, _ => List.mem_of_getElem? st_c16
  | 17, _ => List.mem_of_getElem? st_c17
  | 18, _ => List.mem_of_getElem? st_c18
  | 19, _ => List.mem_of_getElem? st_c19
  | 20, _ => List.mem_of_getElem? st_c20
  | 21, _ => List.mem_of_getElem? st_c21
  | 22, _ => List.mem_of_getElem? st_c22
  | 23, _ => List.mem_of_getElem? st_c23
  | 24, _ => List.mem_of_getElem? st_c24
  | 25, _ => List.mem_of_getElem? st_c25
  | 26, _ => List.mem_of_getElem? st_c26
  | 27, _ => List.mem_of_getElem? st_c27
  | 28, _ => List.mem_of_getElem? st_c28
  | 29, _ => List.mem_of_getElem? st_c29
  | 30, _ => List.mem_of_getElem? st_c30
  | 31, _ => List.mem_of_getElem? st_c31
  | 32, _ => List.mem_of_getElem? st_c32
  | 33, _ => List.mem_of_getElem? st_c33
  | 34, _ => List.mem_of_getElem? st_c34
  | 35, _ => List.mem_of_getElem? st_c35
  | 36, _ => List.mem_of_getElem? st_c36
  | 37, _ => List.mem_of_getElem? st_c37
  | 38, _ => List.mem_of_getElem? st_c38
  | 39, _ => List.mem_of_getElem? st_c39
  | 40, _ => List.mem_of_getElem? st_c40
  | 41, _ => List.mem_of_getElem? st_c41
  | 42, _ => List.mem_of_getElem? st_c42
  | 43, _ => List.mem_of_getElem? st_c43
  | 44, _ => List.mem_of_getElem? st_c44
  | 45, _ => List.mem_of_getElem? st_c45
  | 46, _ => List.mem_of_getElem? st_c46
  | 47, _ => List.mem_of_getElem? st_c47
  | 48, _ => List.mem_of_getElem? st_c48
  | 49, _ => List.mem_of_getElem? st_c49
  | 50, _ => List.mem_of_getElem? st_c50
  | 51, _ => List.mem_of_getElem? st_c51
  | 52, _ => List.mem_of_getElem? st_c52
  | 53, _ => List.mem_of_getElem? st_c53
  | 54, _ => List.mem_of_getElem? st_c54
  | 55, _ => List.mem_of_getElem? st_c55
  | 56, _ => List.mem_of_getElem? st_c56
  | 57, _ => List.mem_of_getElem? st_c57
  | 58, _ => List.mem_of_getElem? st_c58
  | 59, _ => List.mem_of_getElem? st_c59
  | 60, _ => List.mem_of_getElem? st_c60
  | 61, _ => List.mem_of_getElem? st_c61
  | 62, _ => List.mem_of_getElem? st_c62
  | 63, _ => List.mem_of_getElem? st_c63
  | 64, _ => List.mem_of_getElem? st_c64
  | 65, _ => List.mem_of_getElem? st_c65
  | 66, _ => List.mem_of_getElem? st_c66
  | 67, _ => List.mem_of_getElem? st_c67
  | 68, _ => List.mem_of_getElem? st_c68
  | 69, _ => List.mem_of_getElem? st_c69
  | 70, _ => List.mem_of_getElem? st_c70
  | 71, _ => List.mem_of_getElem? st_c71
  | 72, _ => List.mem_of_getElem? st_c72
  | 73, _ => List.mem_of_getElem? st_c73
  | 74, _ => List.mem_of_getElem? st_c74
  | 75, _ => List.mem_of_getElem? st_c75
  | 76, _ => List.mem_of_getElem? st_c76
  | 77, _ => List.mem_of_getElem? st_c77
  | 78, _ => List.mem_of_getElem? st_c78
  | 79, _ => List.mem_of_getElem? st_c79
  | 80, _ => List.mem_of_getElem? st_c80
  | 81, _ => List.mem_of_getElem? st_c81
  | 82, _ => List.mem_of_getElem? st_c82
  | 83, _ => List.mem_of_getElem? st_c83
  | 84, _ => List.mem_of_getElem? st_c84
  | 85, _ => List.mem_of_getElem? st_c85
  | 86, _ => List.mem_of_getElem? st_c86
  | 87, _ => List.mem_of_getElem? st_c87
  | 88, _ => List.mem_of_getElem? st_c88
  | 89, _ => List.mem_of_getElem? st_c89
  | 90, _ => List.mem_of_getElem? st_c90
  | 91, _ => List.mem_of_getElem? st_c91
  | 92, _ => List.mem_of_getElem? st_c92
  | 93, _ => List.mem_of_getElem? st_c93
  | 94, _ => List.mem_of_getElem? st_c94
  | 95, _ => List.mem_of_getElem? st_c95
  | 96, _ => List.mem_of_getElem? st_c96
  | 97, _ => List.mem_of_getElem? st_c97
  | 98, _ => List.mem_of_getElem? st_c98
  | 99, _ => List.mem_of_getElem? st_c99
  | 100, _ => List.mem_of_getElem? st_c100
  | 101, _ => List.mem_of_getElem? st_c101
  | 102, _ => List.mem_of_getElem? st_c102
  | 103, _ => List.mem_of_getElem? st_c103
  | 104, _ => List.mem_of_getElem? st_c104
  | 105, _ => List.mem_of_getElem? st_c105
  | 106, _ => List.mem_of_getElem? st_c106
  | 107, _ => List.mem_of_getElem? st_c107
  | 108, _ => List.mem_of_getElem? st_c108
  | 109, _ => List.mem_of_getElem? st_c109
  | 110, _ => List.mem_of_getElem? st_c110
  | 111, _ => List.mem_of_getElem? st_c111
  | 112, _ => List.mem_of_getElem? st_c112
  | 113, _ => List.mem_of_getElem? st_c113
  | 114, _ => List.mem_of_getElem? st_c114
  | 115, _ => List.mem_of_getElem? st_c115
  | 116, _ => List.mem_of_getElem? st_c116
  | 117, _ => List.mem_of_getElem? st_c117
  | 118, _ => List.mem_of_getElem? st_c118
  | 119, _ => List.mem_of_getElem? st_c119
  | 120, _ => List.mem_of_getElem? st_c120
  | 121, _ => List.mem_of_getElem? st_c121
  | 122, _ => List.mem_of_getElem? st_c122
  | 123, _ => List.mem_of_getElem? st_c123
  | 124, _ => List.mem_of_getElem? st_c124
  | 125, _ => List.mem_of_getElem? st_c125
  | 126, _ => List.mem_of_getElem? st_c126
  | 127, _ => List.mem_of_getElem? st_c127
  | 128, _ => List.mem_of_getElem? st_c128
  | 129, _ => List.mem_of_getElem? st_c129
  | 130, _ => List.mem_of_getElem? st_c130
  | 131, _ => List.mem_of_getElem? st_c131
  | 132, _ => List.mem_of_getElem? st_c132
  | 133, _ => List.mem_of_getElem? st_c133
  | 134, _ => List.mem_of_getElem? st_c134
  | 135, _ => List.mem_of_getElem? st_c135
  | 136, _ => List.mem_of_getElem? st_c136
  | 137, _ => List.mem_of_getElem? st_c137
  | 138, _ => List.mem_of_getElem? st_c138
  | 139, _ => List.mem_of_getElem? st_c139
  | 140, _ => List.mem_of_getElem? st_c140
  | 141, _ => List.mem_of_getElem? st_c141
  | 142, _ => List.mem_of_getElem? st_c142
  | 143, _ => List.mem_of_getElem? st_c143
  | 144, _ => List.mem_of_getElem? st_c144
  | 145, _ => List.mem_of_getElem? st_c145
  | 146, _ => List.mem_of_getElem? st_c146
  | 147, _ => List.mem_of_getElem? st_c147
  | 148, _ => List.mem_of_getElem? st_c148
  | 149, _ => List.mem_of_getElem? st_c149
  | 150, _ => List.mem_of_getElem? st_c150
  | 151, _ => List.mem_of_getElem? st_c151
  | 152, _ => List.mem_of_getElem? st_c152
  | 153, _ => List.mem_of_getElem? st_c153
  | 154, _ => List.mem_of_getElem? st_c154
  | 155, _ => List.mem_of_getElem? st_c155
  | 156, _ => List.mem_of_getElem? st_c156
  | 157, _ => List.mem_of_getElem? st_c157
  | 158, _ => List.mem_of_getElem? st_c158
  | 159, _ => List.mem_of_getElem? st_c159
  | 160, _ => List.mem_of_getElem? st_c160
  | 161, _ => List.mem_of_getElem? st_c161
  | 162, _ => List.mem_of_getElem? st_c162
  | 163, _ => List.mem_of_getElem? st_c163
  | 164, _ => List.mem_of_getElem? st_c164
  | 165, _ => List.mem_of_getElem? st_c165
  | 166, _ => List.mem_of_getElem? st_c166
  | 167, _ => List.mem_of_getElem? st_c167
  | 168, _ => List.mem_of_getElem? st_c168
  | 169, _ => List.mem_of_getElem? st_c169
  | 170, _ => List.mem_of_getElem? st_c170
  | 171, _ => List.mem_of_getElem? st_c171
  | 172, _ => List.mem_of_getElem? st_c172
  | 173, _ => List.mem_of_getElem? st_c173
  | 174, _ => List.mem_of_getElem? st_c174
  | 175, _ => List.mem_of_getElem? st_c175
  | 176, _ => List.mem_of_getElem? st_c176
  | 177, _ => List.mem_of_getElem? st_c177
  | 178, _ => List.mem_of_getElem? st_c178
  | 179, _ => List.mem_of_getElem? st_c179
  | 180, _ => List.mem_of_getElem? st_c180
  | 181, _ => List.mem_of_getElem? st_c181
  | 182, _ => List.mem_of_getElem? st_c182
  | 183, _ => List.mem_of_getElem? st_c183
  | 184, _ => List.mem_of_getElem? st_c184
  | 185, _ => List.mem_of_getElem? st_c185
  | 186, _ => List.mem_of_getElem? st_c186
  | 187, _ => List.mem_of_getElem? st_c187
  | 188, _ => List.mem_of_getElem? st_c188
  | 189, _ => List.mem_of_getElem? st_c189
  | 190, _ => List.mem_of_getElem? st_c190
  | 191, _ => List.mem_of_getElem? st_c191
  | 192, _ => List.mem_of_getElem? st_c192
  | 193, _ => List.mem_of_getElem? st_c193
  | 194, _ => List.mem_of_getElem? st_c194
  | 195, _ => List.mem_of_getElem? st_c195
  | 196, _ => List.mem_of_getElem? st_c196
  | 197, _ => List.mem_of_getElem? st_c197
  | 198, _ => List.mem_of_getElem? st_c198
  | 199, _ => List.mem_of_getElem? st_c199
  | 200, _ => List.mem_of_getElem? st_c200
  | 201, _ => List.mem_of_getElem? st_c201
  | 202, _ => List.mem_of_getElem? st_c202
  | 203, _ => List.mem_of_getElem? st_c203
  | 204, _ => List.mem_of_getElem? st_c204
  | 205, _ => List.mem_of_getElem? st_c205
  | 206, _ => List.mem_of_getElem? st_c206
  | 207, _ => List.mem_of_getElem? st_c207
  | n + 208, h => absurd h (by unfold tb_nc; omega)
theorem st_mt (M : Nat) (h : M < tb_nc) : ∀ w ∈ tb_mt M, w ∈ lw_tbl := by
  intro w hw
  have key : ∀ (a n : Nat), a ≤ M → M < a + n → (∀ w ∈ (List.range n).flatMap (fun i => tb_mt (i + a)), w ∈ lw_tbl) → w ∈ lw_tbl := fun a n h1 h2 h3 => h3 w (List.mem_flatMap.mpr ⟨M - a, List.mem_range.mpr (by omega), by rw [Nat.sub_add_cancel h1]; exact hw⟩)
  unfold tb_nc at h
  by_cases h0 : M < 30
  · exact key 0 30 (by omega) (by omega) (st_in st_m0)
  by_cases h1 : M < 60
  · exact key 30 30 (by omega) (by omega) (st_in st_m1)
  by_cases h2 : M < 90
  · exact key 60 30 (by omega) (by omega) (st_in st_m2)
  by_cases h3 : M < 120
  · exact key 90 30 (by omega) (by omega) (st_in st_m3)
  by_cases h4 : M < 150
  · exact key 120 30 (by omega) (by omega) (st_in st_m4)
  by_cases h5 : M < 180
  · exact key 150 30 (by omega) (by omega) (st_in st_m5)
  by_cases h6 : M < 208
  · exact key 180 28 (by omega) (by omega) (st_in st_m6)
  omega
theorem st_s1 : st_b [266, 268, 270, 272, 274, 276, 91, 93, 107, 109, 111, 113, 127, 129, 131, 145, 147, 149, 172, 174, 176, 178, 180, 182, 184, 186, 188, 190, 192, 194, 196, 247, 249, 251, 253, 255, 257, 234, 236, 238, 429, 472, 474, 476, 478, 480, 482, 484, 506, 508, 510, 528, 530, 532, 534, 940, 942, 944, 946, 948, 950, 952, 954, 956, 958, 960, 962, 964, 966, 968, 970, 972, 974, 976, 978, 980, 982, 984, 986, 908, 910, 912, 1095, 1097, 1099, 1101, 1103, 1105, 1107, 1109, 1111, 1113, 1115, 1149, 1151, 1153, 1245, 1247, 1249, 1251, 1063, 1065, 1067, 1069] (tb_cl.flatMap (fun q => u_ws q.1 q.2.1 q.2.2)) = true := by decide +kernel
theorem st_s2 : st_b [76, 48, 84, 49, 98, 50, 117, 51, 135, 52, 154, 53, 201, 54, 208, 55, 421, 62, 445, 63, 496, 64, 519, 65, 883, 56, 896, 57, 1072, 68, 1138, 69, 1231, 72, 1013, 58] (tb_cl.flatMap (fun q => [Jvm.Cond.instantiable q.1 q.2.2, Jvm.Cond.initialized q.1])) = true := by decide +kernel
theorem st_s3 : st_b [260, 261, 262, 263, 264, 265, 89, 103, 124, 142, 143, 161, 162, 164, 165, 159, 160, 241, 244, 245, 242, 233, 231, 232, 144, 90, 105, 104, 126, 1061, 1062, 106, 428, 452, 457, 461, 463, 467, 470, 503, 504, 505, 524, 525, 526, 527, 471, 125, 169, 167, 171, 168, 170, 163, 166, 243, 246, 916, 918, 921, 924, 925, 927, 928, 930, 931, 933, 935, 936, 939, 902, 904, 917, 922, 1080, 1081, 934, 923, 1079, 938, 919, 920, 1094, 1093, 1086, 1091, 1083, 1085, 1088, 1090, 1082, 1084, 1087, 1089, 1092, 1145, 1148, 1147, 1144, 1146, 1244, 1239, 1241, 1243, 1238, 1240, 1242, 926, 937, 907, 903, 929, 905, 932, 906] (tb_fl.map tb_fc) = true := by decide +kernel
theorem st_s4 : st_b [99, 136, 155, 202, 210, 215, 225, 218, 228, 283, 287, 291, 299, 307, 320, 324, 572, 577, 592, 600, 604, 311, 315, 316, 328, 395, 446, 487, 337, 491, 557, 561, 565, 332, 391, 341, 351, 345, 399, 403, 416, 422, 433, 440, 407, 411, 437, 451, 513, 548, 553, 520, 537, 547, 542, 543, 576, 581, 585, 588, 596, 612, 616, 620, 628, 629, 630, 636, 634, 635, 644, 645, 653, 738, 742, 758, 775, 787, 746, 657, 661, 667, 702, 706, 710, 662, 663, 671, 672, 676, 680, 684, 698, 689, 693, 697, 714, 734, 718, 726, 722, 730, 750, 754, 762, 766, 771, 772, 774, 779, 783, 791, 792, 796, 797, 798, 802, 810, 814, 818, 823, 833, 841, 845, 849, 857, 858, 863, 864, 869, 874, 878, 993, 1005, 1123, 1315, 1321, 1009, 1118, 1134, 1219, 1224, 1227, 1014, 1121, 1133, 1156, 1159, 1210, 1216, 1213, 1254, 1260, 1311, 1264, 1318, 1325, 1336, 1348, 1352, 1356, 1376, 1380, 1363, 1360, 1372, 1366, 1369, 1388, 1392, 1396, 1399, 1406, 1403, 1410, 355, 359, 362, 367, 1128, 1163, 1164, 1170, 1167, 1175, 1195, 1178, 1181, 1017, 1026, 1020, 1023, 1031, 1057, 1034, 1268, 1272, 77, 884, 279, 989, 295, 997, 303, 1001, 608, 1328, 624, 1332, 640, 1340, 649, 1384, 806, 1414, 819, 1344, 829, 1418, 837, 1422, 853, 1426, 859, 1430, 865, 1434, 870, 1438] (tb_ml.map (fun q => Jvm.Cond.methodLink (tb_cn q.1) q.2.1 (tb_y q.2.2))) = true := by decide +kernel
theorem st_s5 : st_b [826, 827, 828] (tb_kw.map (fun q => Jvm.Cond.constant (tb_cn q.1) q.2.1 (tb_ki.getD q.2.2 0))) = true := by decide +kernel
theorem st_s6 : st_b [410, 415, 426, 427] (tb_k2.map (fun q => Jvm.Cond.constantLong (tb_cn q.1) q.2.1 (tb_kl.getD q.2.2 0))) = true := by decide +kernel
theorem st_s7 : st_b [83, 97, 116, 134, 153, 200, 206, 444, 420, 450, 495, 518, 541, 773, 894, 890, 888, 1137, 892, 1127, 1174, 75, 882] (tb_nl.map (fun q => Jvm.Cond.classLink (tb_cn q.1) q.2.1 (tb_cn q.2.2))) = true := by decide +kernel
theorem st_s8 : st_b [122, 140, 206, 209, 214, 501, 770, 888, 890, 892, 894, 901, 1077, 1078, 1143, 1236] (tb_al.map (fun q => Jvm.Cond.classLink (tb_cn q.1) q.2.1 (tb_an q.2.2))) = true := by decide +kernel
theorem st_s9 : st_b [80, 88, 102, 121, 139, 158, 205, 213, 425, 449, 500, 523, 887, 900, 1076, 1142, 1235, 1029] (tb_oi.map (fun q => Jvm.Cond.methodLink (tb_cn q.1) q.2 objectInit)) = true := by decide +kernel
theorem st_s10 : st_b [81, 82] ([Jvm.Cond.instanceMethod objectInit, Jvm.Cond.code objectInit ⟨#[0xb1]⟩ 1 none]) = true := by decide +kernel
theorem st_s11 : st_b [96, 152, 199, 432, 915] (tb_pa.map Jvm.Cond.arrayClass) = true := by decide +kernel
theorem st_s12 : st_b [349] (tb_zl.map tb_zc) = true := by decide +kernel
theorem st_s13 : st_b [365] (tb_yl.map (fun q => Jvm.Cond.fieldLink (tb_cn q.1) q.2 "jdk/internal/util/Preconditions" "SIOOBE_FORMATTER" "Ljava/util/function/BiFunction;")) = true := by decide +kernel
theorem st_s14 : st_b [569, 1187] (tb_ac.map (fun q => Jvm.Cond.methodLink (tb_cn q.1) q.2 arraycopyName)) = true := by decide +kernel
theorem st_s15 : st_b [571, 570, 66] ([Jvm.Cond.native arraycopyName, Jvm.Cond.static arraycopyName, Jvm.Cond.initialized "java/lang/System"]) = true := by decide +kernel
theorem st_s16 : st_b [1184] (tb_mm.map (fun q => Jvm.Cond.methodLink (tb_cn q.1) q.2 Lib.Math.min.name)) = true := by decide +kernel
theorem st_s17 : st_b [1185, 71, 1186] ([Jvm.Cond.static Lib.Math.min.name, Jvm.Cond.initialized "java/lang/Math", Jvm.Cond.code Lib.Math.min.name Lib.Math.min.code 2 (some .int)]) = true := by decide +kernel
theorem st_ws : ∀ w ∈ tb_ws, w ∈ lw_tbl := by
  intro w hw
  rcases List.mem_append.mp hw with hw | hw
  · obtain ⟨M, hM, hw⟩ := List.mem_flatMap.mp hw
    have hM := List.mem_range.mp hM
    rcases List.mem_cons.mp hw with rfl | hw
    · exact st_c M hM
    · exact st_mt M hM w hw
  rcases List.mem_append.mp hw with hw | hw
  · exact st_in st_s1 w hw
  rcases List.mem_append.mp hw with hw | hw
  · exact st_in st_s2 w hw
  rcases List.mem_append.mp hw with hw | hw
  · exact st_in st_s3 w hw
  rcases List.mem_append.mp hw with hw | hw
  · exact st_in st_s4 w hw
  rcases List.mem_append.mp hw with hw | hw
  · exact st_in st_s5 w hw
  rcases List.mem_append.mp hw with hw | hw
  · exact st_in st_s6 w hw
  rcases List.mem_append.mp hw with hw | hw
  · exact st_in st_s7 w hw
  rcases List.mem_append.mp hw with hw | hw
  · exact st_in st_s8 w hw
  rcases List.mem_append.mp hw with hw | hw
  · exact st_in st_s9 w hw
  rcases List.mem_append.mp hw with hw | hw
  · exact st_in st_s10 w hw
  rcases List.mem_append.mp hw with hw | hw
  · exact st_in st_s11 w hw
  rcases List.mem_append.mp hw with hw | hw
  · exact st_in st_s12 w hw
  rcases List.mem_append.mp hw with hw | hw
  · exact st_in st_s13 w hw
  rcases List.mem_append.mp hw with hw | hw
  · exact st_in st_s14 w hw
  rcases List.mem_append.mp hw with hw | hw
  · exact st_in st_s15 w hw
  rcases List.mem_append.mp hw with hw | hw
  · exact st_in st_s16 w hw
  exact st_in st_s17 w hw
theorem st_nw : st_b [464, 458, 453, 465, 468, 459, 454, 460, 466, 462, 469, 456, 455, 85, 118, 222, 497, 688, 897, 1073, 1139, 1232] tb_nw = true := by decide +kernel
theorem st_ao : st_b [123, 141, 207, 502, 889, 891, 893, 895, 1237] (tb_ao.map (fun C => Jvm.Cond.arrayOver (.object C))) = true := by decide +kernel
