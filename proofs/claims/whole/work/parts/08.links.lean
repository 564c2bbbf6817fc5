/-! ===== LINKS: which field a pool entry names, constants, by owner; the tables have these words (written by a program) ===== -/
def zOwn (o : Nat) : String := match o with
  | 0 => "SkyChairs$Book"
  | 1 => "SkyChairs$Deeds"
  | 2 => "SkyChairs$Front"
  | 3 => "SkyChairs$Order"
  | 4 => "SkyChairs$Plan"
  | 5 => "SkyChairs$Reader"
  | 6 => "SkyChairs$Terms"
  | 7 => "SkyChairs$Tokens"
  | 8 => "SkyChairs$Walk"
  | 9 => "SkyChairs"
  | 10 => "SkyChairsModel"
  | 11 => "SkyChairsLaw"
  | 12 => "java/lang/Long"
  | 13 => "java/lang/Math"
  | _ => "java/util/Arrays"
def zTFp (o : Nat) : List ((Nat × Nat × Nat) × Nat) := match o with
  | 0 => [((9, 0, 0), 476), ((15, 0, 1), 477), ((19, 0, 2), 478), ((22, 0, 3), 479), ((33, 0, 4), 480), ((25, 0, 5), 482)]
  | 1 => [((54, 2, 8), 366), ((65, 2, 11), 375), ((32, 2, 12), 377), ((37, 2, 13), 381), ((40, 2, 14), 384), ((9, 1, 0), 453), ((15, 1, 1), 454), ((18, 1, 2), 455), ((21, 1, 3), 456), ((28, 1, 4), 457)]
  | 2 => [((9, 2, 0), 340), ((15, 2, 1), 343), ((18, 2, 2), 346), ((21, 2, 3), 349), ((24, 2, 4), 352), ((27, 2, 5), 355), ((30, 2, 6), 358), ((33, 2, 7), 361), ((42, 2, 8), 364), ((46, 2, 9), 368), ((49, 2, 10), 371), ((52, 2, 11), 373), ((69, 2, 12), 378), ((72, 2, 13), 382), ((75, 2, 14), 385), ((59, 2, 15), 387)]
  | 3 => [((9, 3, 0), 504), ((24, 3, 1), 506)]
  | 4 => [((63, 4, 0), 535), ((9, 4, 1), 539), ((15, 4, 2), 541), ((18, 4, 3), 545), ((21, 4, 4), 549), ((67, 4, 5), 552), ((24, 4, 6), 555), ((27, 4, 7), 557), ((30, 4, 8), 559), ((70, 4, 9), 563), ((33, 4, 10), 565), ((36, 4, 11), 567), ((39, 4, 12), 569), ((42, 4, 13), 571), ((73, 4, 14), 575), ((45, 4, 15), 578), ((76, 4, 16), 580), ((48, 4, 17), 583), ((51, 4, 18), 586), ((54, 4, 19), 589)]
  | 5 => [((76, 7, 5), 217), ((62, 7, 6), 219), ((105, 7, 7), 222), ((25, 5, 0), 248), ((9, 5, 1), 249), ((15, 5, 2), 250), ((18, 5, 3), 251), ((189, 5, 4), 252), ((192, 5, 5), 253), ((44, 5, 6), 254), ((47, 5, 7), 255), ((29, 5, 8), 256), ((50, 5, 9), 257), ((53, 5, 10), 259), ((21, 5, 11), 261), ((108, 4, 0), 537), ((119, 4, 1), 540), ((122, 4, 2), 543), ((129, 4, 3), 547), ((132, 4, 4), 551), ((135, 4, 5), 553), ((138, 4, 6), 556), ((141, 4, 7), 558), ((144, 4, 8), 562), ((147, 4, 9), 564), ((150, 4, 10), 566), ((153, 4, 11), 568), ((156, 4, 12), 570), ((168, 4, 13), 574), ((159, 4, 14), 576), ((165, 4, 15), 579), ((228, 4, 16), 581), ((231, 4, 17), 585), ((180, 4, 18), 588), ((186, 4, 19), 591)]
  | 6 => [((9, 6, 0), 294), ((15, 6, 1), 297), ((19, 6, 2), 300), ((22, 6, 3), 303), ((25, 6, 4), 305), ((28, 6, 5), 307), ((31, 6, 6), 309), ((34, 6, 7), 311), ((37, 6, 8), 313)]
  | 7 => [((9, 7, 0), 211), ((15, 7, 1), 212), ((35, 7, 2), 214), ((44, 7, 3), 215), ((46, 7, 4), 216), ((52, 7, 5), 218), ((58, 7, 6), 220), ((55, 7, 7), 221)]
  | 8 => [((214, 6, 0), 295), ((187, 6, 1), 298), ((32, 6, 2), 301), ((72, 6, 3), 304), ((239, 6, 4), 306), ((193, 6, 5), 308), ((102, 6, 6), 310), ((157, 6, 7), 312), ((123, 6, 8), 314), ((96, 2, 0), 341), ((196, 2, 1), 345), ((108, 2, 2), 347), ((120, 2, 3), 351), ((199, 2, 4), 354), ((79, 2, 5), 356), ((82, 2, 6), 359), ((117, 2, 7), 362), ((93, 2, 8), 365), ((26, 2, 10), 370), ((59, 2, 11), 374), ((171, 2, 12), 379), ((174, 2, 13), 383), ((180, 2, 14), 386), ((202, 2, 15), 388), ((18, 8, 0), 429), ((22, 8, 1), 430), ((9, 8, 2), 431), ((15, 8, 3), 432), ((62, 8, 4), 433), ((76, 4, 0), 536), ((152, 4, 2), 544), ((236, 4, 3), 548), ((66, 4, 8), 560), ((111, 4, 13), 572), ((223, 4, 17), 584), ((217, 4, 18), 587), ((220, 4, 19), 590)]
  | 9 => [((98, 7, 2), 213), ((110, 5, 9), 258), ((113, 5, 10), 260), ((116, 5, 11), 262), ((259, 6, 0), 296), ((265, 6, 1), 299), ((242, 6, 2), 302), ((136, 2, 0), 342), ((140, 2, 1), 344), ((143, 2, 2), 348), ((146, 2, 3), 350), ((149, 2, 4), 353), ((170, 2, 5), 357), ((173, 2, 6), 360), ((229, 2, 7), 363), ((126, 2, 8), 367), ((239, 2, 9), 369), ((179, 2, 10), 372), ((191, 2, 11), 376), ((262, 2, 12), 380), ((312, 2, 15), 389), ((334, 8, 4), 434), ((223, 1, 4), 458), ((286, 0, 4), 481), ((287, 0, 5), 483), ((351, 3, 0), 505), ((348, 3, 1), 507), ((245, 4, 0), 538), ((161, 4, 2), 542), ((164, 4, 3), 546), ((167, 4, 4), 550), ((325, 4, 5), 554), ((176, 4, 8), 561), ((188, 4, 13), 573), ((276, 4, 14), 577), ((328, 4, 16), 582), ((14, 9, 0), 650), ((25, 9, 1), 651), ((32, 9, 2), 652), ((36, 9, 3), 653), ((42, 9, 4), 654), ((46, 9, 5), 655), ((49, 9, 6), 656), ((57, 9, 7), 657), ((61, 9, 8), 658), ((67, 9, 9), 659), ((74, 9, 10), 660), ((81, 9, 11), 661), ((88, 9, 12), 662), ((92, 9, 13), 663), ((322, 9, 14), 664)]
  | 10 => [((7, 10, 0), 1367), ((181, 10, 1), 1368), ((178, 10, 2), 1369), ((13, 10, 3), 1370), ((184, 10, 4), 1371), ((16, 10, 5), 1372), ((190, 10, 6), 1373), ((193, 10, 7), 1374), ((196, 10, 8), 1375), ((207, 10, 9), 1376), ((187, 10, 10), 1377), ((227, 10, 11), 1378), ((261, 10, 12), 1379), ((264, 10, 13), 1380), ((267, 10, 14), 1381), ((270, 10, 15), 1382), ((273, 10, 16), 1383), ((276, 10, 17), 1384), ((240, 10, 18), 1385), ((243, 10, 19), 1386), ((246, 10, 20), 1387), ((249, 10, 21), 1388), ((252, 10, 22), 1389), ((255, 10, 23), 1390), ((20, 10, 24), 1391), ((23, 10, 25), 1392), ((26, 10, 26), 1393), ((29, 10, 27), 1394), ((32, 10, 28), 1395), ((35, 10, 29), 1396), ((38, 10, 30), 1397), ((41, 10, 31), 1398), ((44, 10, 32), 1399), ((47, 10, 33), 1400), ((50, 10, 34), 1401), ((53, 10, 35), 1402), ((56, 10, 36), 1403), ((59, 10, 37), 1404), ((63, 10, 38), 1405), ((66, 10, 39), 1406), ((69, 10, 40), 1407), ((72, 10, 41), 1408), ((75, 10, 42), 1409), ((78, 10, 43), 1410), ((81, 10, 44), 1411), ((84, 10, 45), 1412), ((325, 10, 46), 1413), ((322, 10, 47), 1414), ((340, 10, 48), 1415), ((258, 10, 49), 1416), ((357, 10, 50), 1417), ((347, 10, 51), 1418), ((87, 10, 52), 1419), ((91, 10, 53), 1420), ((368, 10, 54), 1421), ((387, 10, 55), 1422), ((390, 10, 56), 1423), ((94, 10, 57), 1424), ((97, 10, 58), 1425), ((100, 10, 59), 1426), ((103, 10, 60), 1427), ((106, 10, 61), 1428), ((109, 10, 62), 1429), ((112, 10, 63), 1430), ((393, 10, 64), 1431), ((396, 10, 65), 1432), ((115, 10, 66), 1433), ((408, 10, 67), 1434), ((411, 10, 68), 1435), ((414, 10, 69), 1436), ((417, 10, 70), 1437), ((420, 10, 71), 1438), ((423, 10, 72), 1439), ((426, 10, 73), 1440), ((429, 10, 74), 1441), ((432, 10, 75), 1442), ((435, 10, 76), 1443), ((118, 10, 77), 1444), ((402, 10, 78), 1445), ((121, 10, 79), 1446), ((124, 10, 80), 1447), ((127, 10, 81), 1448), ((130, 10, 82), 1449), ((133, 10, 83), 1450), ((136, 10, 84), 1451), ((399, 10, 85), 1452), ((139, 10, 86), 1453), ((142, 10, 87), 1454), ((145, 10, 88), 1455), ((148, 10, 89), 1456), ((405, 10, 90), 1457), ((581, 10, 91), 1458), ((584, 10, 92), 1459), ((587, 10, 93), 1460), ((590, 10, 94), 1461), ((593, 10, 95), 1462), ((151, 10, 96), 1463), ((154, 10, 97), 1464), ((157, 10, 98), 1465), ((160, 10, 99), 1466), ((163, 10, 100), 1467), ((166, 10, 101), 1468), ((169, 10, 102), 1469)]
  | 11 => []
  | _ => []
def zTF (o : Nat) : List (Nat × Nat × Nat) := (zTFp o).map Prod.fst
def zTIp (o : Nat) : List ((Nat × Int) × Nat) := match o with
  | 7 => [((81, 1000000), 743)]
  | 9 => [((232, -2147483648), 1087)]
  | 10 => [((216, 99999), 1709), ((533, -2147483648), 1979)]
  | _ => []
def zTI (o : Nat) : List (Nat × Int) := (zTIp o).map Prod.fst
def zTLp (o : Nat) : List ((Nat × Int) × Nat) := match o with
  | 2 => [((78, 1103515245), 1068), ((80, 12345), 1069), ((82, 2147483647), 1070)]
  | 8 => [((155, -9223372036854775808), 894), ((248, 1000000000000), 914), ((160, 95), 1043), ((212, 100), 1074)]
  | 9 => [((182, -9223372036854775808), 887)]
  | 10 => [((516, -9223372036854775808), 1855), ((371, 1000000000000), 1872), ((373, -1000000000000), 1873), ((528, 15), 1905), ((473, 1103515245), 1962), ((475, 12345), 1963), ((477, 2147483647), 1964), ((479, 65536), 1965), ((481, 100), 1966)]
  | 11 => [((70, 4294967295), 2115)]
  | 12 => [((314, 6148914691236517205), 938), ((316, 3689348814741910323), 939), ((318, 1085102592571150095), 940)]
  | _ => []
def zTL (o : Nat) : List (Nat × Int) := (zTLp o).map Prod.fst
set_option maxRecDepth 100000 in
theorem zTF_0 : ∀ q ∈ zTFp 0, q.1.2.1 < 11 ∧ q.1.2.2 < zN q.1.2.1 ∧ lw_tbl[q.2]? = some (zFl (zOwn 0) q.1.1 q.1.2.1 q.1.2.2) := by decide +kernel
set_option maxRecDepth 100000 in
theorem zTF_1 : ∀ q ∈ zTFp 1, q.1.2.1 < 11 ∧ q.1.2.2 < zN q.1.2.1 ∧ lw_tbl[q.2]? = some (zFl (zOwn 1) q.1.1 q.1.2.1 q.1.2.2) := by decide +kernel
set_option maxRecDepth 100000 in
theorem zTF_2 : ∀ q ∈ zTFp 2, q.1.2.1 < 11 ∧ q.1.2.2 < zN q.1.2.1 ∧ lw_tbl[q.2]? = some (zFl (zOwn 2) q.1.1 q.1.2.1 q.1.2.2) := by decide +kernel
set_option maxRecDepth 100000 in
theorem zTF_3 : ∀ q ∈ zTFp 3, q.1.2.1 < 11 ∧ q.1.2.2 < zN q.1.2.1 ∧ lw_tbl[q.2]? = some (zFl (zOwn 3) q.1.1 q.1.2.1 q.1.2.2) := by decide +kernel
set_option maxRecDepth 100000 in
theorem zTF_4 : ∀ q ∈ zTFp 4, q.1.2.1 < 11 ∧ q.1.2.2 < zN q.1.2.1 ∧ lw_tbl[q.2]? = some (zFl (zOwn 4) q.1.1 q.1.2.1 q.1.2.2) := by decide +kernel
set_option maxRecDepth 100000 in
theorem zTF_5 : ∀ q ∈ zTFp 5, q.1.2.1 < 11 ∧ q.1.2.2 < zN q.1.2.1 ∧ lw_tbl[q.2]? = some (zFl (zOwn 5) q.1.1 q.1.2.1 q.1.2.2) := by decide +kernel
set_option maxRecDepth 100000 in
theorem zTF_6 : ∀ q ∈ zTFp 6, q.1.2.1 < 11 ∧ q.1.2.2 < zN q.1.2.1 ∧ lw_tbl[q.2]? = some (zFl (zOwn 6) q.1.1 q.1.2.1 q.1.2.2) := by decide +kernel
set_option maxRecDepth 100000 in
theorem zTF_7 : ∀ q ∈ zTFp 7, q.1.2.1 < 11 ∧ q.1.2.2 < zN q.1.2.1 ∧ lw_tbl[q.2]? = some (zFl (zOwn 7) q.1.1 q.1.2.1 q.1.2.2) := by decide +kernel
set_option maxRecDepth 100000 in
theorem zTF_8 : ∀ q ∈ zTFp 8, q.1.2.1 < 11 ∧ q.1.2.2 < zN q.1.2.1 ∧ lw_tbl[q.2]? = some (zFl (zOwn 8) q.1.1 q.1.2.1 q.1.2.2) := by decide +kernel
set_option maxRecDepth 100000 in
theorem zTF_9 : ∀ q ∈ zTFp 9, q.1.2.1 < 11 ∧ q.1.2.2 < zN q.1.2.1 ∧ lw_tbl[q.2]? = some (zFl (zOwn 9) q.1.1 q.1.2.1 q.1.2.2) := by decide +kernel
set_option maxRecDepth 100000 in
theorem zTF_10 : ∀ q ∈ zTFp 10, q.1.2.1 < 11 ∧ q.1.2.2 < zN q.1.2.1 ∧ lw_tbl[q.2]? = some (zFl (zOwn 10) q.1.1 q.1.2.1 q.1.2.2) := by decide +kernel
set_option maxRecDepth 100000 in
theorem zTF_11 : ∀ q ∈ zTFp 11, q.1.2.1 < 11 ∧ q.1.2.2 < zN q.1.2.1 ∧ lw_tbl[q.2]? = some (zFl (zOwn 11) q.1.1 q.1.2.1 q.1.2.2) := by decide +kernel
theorem zTF_ok {o idx ci k : Nat} (h : (idx, ci, k) ∈ zTF o) : ci < 11 ∧ k < zN ci ∧ zFl (zOwn o) idx ci k ∈ zG := by
  obtain ⟨q, hq, e⟩ := List.mem_map.mp h
  have key : q.1.2.1 < 11 ∧ q.1.2.2 < zN q.1.2.1 ∧ lw_tbl[q.2]? = some (zFl (zOwn o) q.1.1 q.1.2.1 q.1.2.2) := by
    match o, hq with
    | 0, hq => exact zTF_0 q hq
    | 1, hq => exact zTF_1 q hq
    | 2, hq => exact zTF_2 q hq
    | 3, hq => exact zTF_3 q hq
    | 4, hq => exact zTF_4 q hq
    | 5, hq => exact zTF_5 q hq
    | 6, hq => exact zTF_6 q hq
    | 7, hq => exact zTF_7 q hq
    | 8, hq => exact zTF_8 q hq
    | 9, hq => exact zTF_9 q hq
    | 10, hq => exact zTF_10 q hq
    | 11, hq => exact zTF_11 q hq
    | n + 12, hq => exact absurd hq (by simp [zTFp])
  rw [e] at key
  exact ⟨key.1, key.2.1, zG_mem q.2 key.2.2 rfl⟩
set_option maxRecDepth 100000 in
theorem zTI_7 : ∀ q ∈ zTIp 7, lw_tbl[q.2]? = some (Cond.constant (zOwn 7) q.1.1 (Int32.ofInt q.1.2)) := by decide +kernel
theorem zTI_9 : ∀ q ∈ zTIp 9, lw_tbl[q.2]? = some (Cond.constant (zOwn 9) q.1.1 (Int32.ofInt q.1.2)) := by decide +kernel
theorem zTI_10 : ∀ q ∈ zTIp 10, lw_tbl[q.2]? = some (Cond.constant (zOwn 10) q.1.1 (Int32.ofInt q.1.2)) := by decide +kernel
theorem zTL_2 : ∀ q ∈ zTLp 2, lw_tbl[q.2]? = some (Cond.constantLong (zOwn 2) q.1.1 (Int64.ofInt q.1.2)) := by decide +kernel
theorem zTL_8 : ∀ q ∈ zTLp 8, lw_tbl[q.2]? = some (Cond.constantLong (zOwn 8) q.1.1 (Int64.ofInt q.1.2)) := by decide +kernel
theorem zTL_9 : ∀ q ∈ zTLp 9, lw_tbl[q.2]? = some (Cond.constantLong (zOwn 9) q.1.1 (Int64.ofInt q.1.2)) := by decide +kernel
theorem zTL_10 : ∀ q ∈ zTLp 10, lw_tbl[q.2]? = some (Cond.constantLong (zOwn 10) q.1.1 (Int64.ofInt q.1.2)) := by decide +kernel
theorem zTL_11 : ∀ q ∈ zTLp 11, lw_tbl[q.2]? = some (Cond.constantLong (zOwn 11) q.1.1 (Int64.ofInt q.1.2)) := by decide +kernel
theorem zTL_12 : ∀ q ∈ zTLp 12, lw_tbl[q.2]? = some (Cond.constantLong (zOwn 12) q.1.1 (Int64.ofInt q.1.2)) := by decide +kernel
theorem zTI_ok {o idx : Nat} {z : Int} (h : (idx, z) ∈ zTI o) : Cond.constant (zOwn o) idx (Int32.ofInt z) ∈ zG := by
  obtain ⟨q, hq, e⟩ := List.mem_map.mp h
  have key : lw_tbl[q.2]? = some (Cond.constant (zOwn o) q.1.1 (Int32.ofInt q.1.2)) := by
    match o, hq with
    | 0, hq => exact absurd hq (by simp [zTIp])
    | 1, hq => exact absurd hq (by simp [zTIp])
    | 2, hq => exact absurd hq (by simp [zTIp])
    | 3, hq => exact absurd hq (by simp [zTIp])
    | 4, hq => exact absurd hq (by simp [zTIp])
    | 5, hq => exact absurd hq (by simp [zTIp])
    | 6, hq => exact absurd hq (by simp [zTIp])
    | 7, hq => exact zTI_7 q hq
    | 8, hq => exact absurd hq (by simp [zTIp])
    | 9, hq => exact zTI_9 q hq
    | 10, hq => exact zTI_10 q hq
    | n + 11, hq => exact absurd hq (by simp [zTIp])
  rw [e] at key
  exact zG_mem q.2 key rfl
theorem zTL_ok {o idx : Nat} {z : Int} (h : (idx, z) ∈ zTL o) : Cond.constantLong (zOwn o) idx (Int64.ofInt z) ∈ zG := by
  obtain ⟨q, hq, e⟩ := List.mem_map.mp h
  have key : lw_tbl[q.2]? = some (Cond.constantLong (zOwn o) q.1.1 (Int64.ofInt q.1.2)) := by
    match o, hq with
    | 0, hq => exact absurd hq (by simp [zTLp])
    | 1, hq => exact absurd hq (by simp [zTLp])
    | 2, hq => exact zTL_2 q hq
    | 3, hq => exact absurd hq (by simp [zTLp])
    | 4, hq => exact absurd hq (by simp [zTLp])
    | 5, hq => exact absurd hq (by simp [zTLp])
    | 6, hq => exact absurd hq (by simp [zTLp])
    | 7, hq => exact absurd hq (by simp [zTLp])
    | 8, hq => exact zTL_8 q hq
    | 9, hq => exact zTL_9 q hq
    | 10, hq => exact zTL_10 q hq
    | 11, hq => exact zTL_11 q hq
    | 12, hq => exact zTL_12 q hq
    | n + 13, hq => exact absurd hq (by simp [zTLp])
  rw [e] at key
  exact zG_mem q.2 key rfl
def zLayP0 : List Nat := [484, 486, 488, 490, 492, 494]
set_option maxRecDepth 100000 in
theorem zLay0 : ∀ k, k < zN 0 → lw_tbl[zLayP0.getD k 0]? = some (u_lay (zC 0) (zT 0) k) := by decide +kernel
def zLayP1 : List Nat := [459, 461, 463, 465, 467]
set_option maxRecDepth 100000 in
theorem zLay1 : ∀ k, k < zN 1 → lw_tbl[zLayP1.getD k 0]? = some (u_lay (zC 1) (zT 1) k) := by decide +kernel
def zLayP2 : List Nat := [390, 392, 394, 396, 398, 400, 402, 404, 406, 408, 410, 412, 414, 416, 418, 420]
set_option maxRecDepth 100000 in
theorem zLay2 : ∀ k, k < zN 2 → lw_tbl[zLayP2.getD k 0]? = some (u_lay (zC 2) (zT 2) k) := by decide +kernel
def zLayP3 : List Nat := [508, 510]
set_option maxRecDepth 100000 in
theorem zLay3 : ∀ k, k < zN 3 → lw_tbl[zLayP3.getD k 0]? = some (u_lay (zC 3) (zT 3) k) := by decide +kernel
def zLayP4 : List Nat := [592, 594, 596, 598, 600, 602, 604, 606, 608, 610, 612, 614, 616, 618, 620, 622, 624, 626, 628, 630]
set_option maxRecDepth 100000 in
theorem zLay4 : ∀ k, k < zN 4 → lw_tbl[zLayP4.getD k 0]? = some (u_lay (zC 4) (zT 4) k) := by decide +kernel
def zLayP5 : List Nat := [263, 265, 267, 269, 271, 273, 275, 277, 279, 281, 283, 285]
set_option maxRecDepth 100000 in
theorem zLay5 : ∀ k, k < zN 5 → lw_tbl[zLayP5.getD k 0]? = some (u_lay (zC 5) (zT 5) k) := by decide +kernel
def zLayP6 : List Nat := [315, 317, 319, 321, 323, 325, 327, 329, 331]
set_option maxRecDepth 100000 in
theorem zLay6 : ∀ k, k < zN 6 → lw_tbl[zLayP6.getD k 0]? = some (u_lay (zC 6) (zT 6) k) := by decide +kernel
def zLayP7 : List Nat := [223, 225, 227, 229, 231, 233, 235, 237]
set_option maxRecDepth 100000 in
theorem zLay7 : ∀ k, k < zN 7 → lw_tbl[zLayP7.getD k 0]? = some (u_lay (zC 7) (zT 7) k) := by decide +kernel
def zLayP8 : List Nat := [435, 437, 439, 441, 443]
set_option maxRecDepth 100000 in
theorem zLay8 : ∀ k, k < zN 8 → lw_tbl[zLayP8.getD k 0]? = some (u_lay (zC 8) (zT 8) k) := by decide +kernel
def zLayP9 : List Nat := [665, 667, 669, 671, 673, 675, 677, 679, 681, 683, 685, 687, 689, 691, 693]
set_option maxRecDepth 100000 in
theorem zLay9 : ∀ k, k < zN 9 → lw_tbl[zLayP9.getD k 0]? = some (u_lay (zC 9) (zT 9) k) := by decide +kernel
def zLayP10 : List Nat := [1470, 1472, 1474, 1476, 1478, 1480, 1482, 1484, 1486, 1488, 1490, 1492, 1494, 1496, 1498, 1500, 1502, 1504, 1506, 1508, 1510, 1512, 1514, 1516, 1518, 1520, 1522, 1524, 1526, 1528, 1530, 1532, 1534, 1536, 1538, 1540, 1542, 1544, 1546, 1548, 1550, 1552, 1554, 1556, 1558, 1560, 1562, 1564, 1566, 1568, 1570, 1572, 1574, 1576, 1578, 1580, 1582, 1584, 1586, 1588, 1590, 1592, 1594, 1596, 1598, 1600, 1602, 1604, 1606, 1608, 1610, 1612, 1614, 1616, 1618, 1620, 1622, 1624, 1626, 1628, 1630, 1632, 1634, 1636, 1638, 1640, 1642, 1644, 1646, 1648, 1650, 1652, 1654, 1656, 1658, 1660, 1662, 1664, 1666, 1668, 1670, 1672, 1674]
set_option maxRecDepth 100000 in
theorem zLay10 : ∀ k, k < zN 10 → lw_tbl[zLayP10.getD k 0]? = some (u_lay (zC 10) (zT 10) k) := by decide +kernel
theorem zLay_good {C : String} {T : u_T} {k : Nat} : goodWord (u_lay C T k) = true := by unfold u_lay; split <;> rfl
theorem zLay_ok : zLayOk := by
  intro ci hci q hq
  obtain ⟨k, hk, rfl⟩ := List.mem_map.mp hq
  have hk := List.mem_range.mp hk
  match ci, hci, hk with
  | 0, _, hk => exact zG_mem _ (zLay0 k hk) zLay_good
  | 1, _, hk => exact zG_mem _ (zLay1 k hk) zLay_good
  | 2, _, hk => exact zG_mem _ (zLay2 k hk) zLay_good
  | 3, _, hk => exact zG_mem _ (zLay3 k hk) zLay_good
  | 4, _, hk => exact zG_mem _ (zLay4 k hk) zLay_good
  | 5, _, hk => exact zG_mem _ (zLay5 k hk) zLay_good
  | 6, _, hk => exact zG_mem _ (zLay6 k hk) zLay_good
  | 7, _, hk => exact zG_mem _ (zLay7 k hk) zLay_good
  | 8, _, hk => exact zG_mem _ (zLay8 k hk) zLay_good
  | 9, _, hk => exact zG_mem _ (zLay9 k hk) zLay_good
  | 10, _, hk => exact zG_mem _ (zLay10 k hk) zLay_good
  | n + 11, h, _ => exact absurd h (by omega)
