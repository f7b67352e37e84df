/-! the small machine's tables: classes' names, fields', constants', methods' numbers; that the Statement's words say them -/
def jm_cns : List String := ["OneWayTown$Acts", "OneWayTown$Doors", "OneWayTown$Fleet", "OneWayTown$Likeness", "OneWayTown$Marks", "OneWayTown$Reader", "OneWayTown$Sets", "OneWayTown$Tape", "OneWayTown$Telling", "OneWayTown$Town", "OneWayTown$Ways", "OneWayTown", "OneWayTownModel", "java/lang/Integer", "java/lang/Math"]
def jm_cn (oc : Nat) : String := jm_cns.getD oc ""
def jm_fl_1 : List (Nat × Nat × Nat × Nat) := [(45160, 7, 0, 183), (28687, 7, 0, 184), (20538, 7, 1, 185), (28700, 7, 1, 186), (28697, 7, 2, 187), (20604, 7, 2, 188), (28724, 7, 3, 189), (20598, 7, 3, 190), (20560, 7, 4, 191), (28720, 7, 4, 192), (28681, 7, 5, 193), (28691, 7, 6, 194), (36885, 9, 0, 223), (16433, 9, 0, 224), (40996, 9, 0, 225), (24623, 9, 0, 226), (12314, 9, 0, 227), (20541, 9, 0, 228), (32792, 9, 0, 229), (45203, 9, 0, 230), (8272, 9, 0, 231), (36889, 9, 1, 232), (20588, 9, 1, 233), (45405, 9, 1, 234), (36873, 9, 2, 235), (41002, 9, 2, 236), (12332, 9, 2, 237), (45214, 9, 2, 238), (16462, 9, 2, 239), (24657, 9, 2, 240), (36879, 9, 3, 241), (41005, 9, 3, 242), (12335, 9, 3, 243), (45217, 9, 3, 244), (16465, 9, 3, 245), (36882, 9, 4, 246), (45220, 9, 4, 247), (16468, 9, 4, 248), (24664, 9, 4, 249), (41037, 9, 4, 250), (20492, 5, 0, 263), (45172, 5, 0, 264), (20498, 5, 1, 265), (45181, 5, 1, 266), (20502, 5, 2, 267), (45184, 5, 2, 268), (20523, 5, 3, 269), (45178, 5, 3, 270), (20530, 5, 4, 271), (45204, 5, 4, 272), (20505, 5, 5, 273), (45207, 5, 5, 274), (20516, 5, 6, 275), (20509, 5, 7, 276), (20513, 5, 8, 277), (20526, 5, 9, 278), (8238, 2, 0, 311), (45395, 2, 0, 312), (8228, 2, 1, 313), (8201, 2, 2, 314)]
def jm_fl_2 : List (Nat × Nat × Nat × Nat) := [(8207, 2, 3, 315), (8212, 2, 4, 316), (8215, 2, 5, 317), (8218, 2, 6, 318), (8221, 2, 7, 319), (8251, 2, 8, 320), (8261, 2, 9, 321), (8224, 2, 10, 322), (16, 0, 0, 355), (45396, 0, 0, 356), (20, 0, 1, 357), (45399, 0, 1, 358), (11, 0, 2, 359), (31, 0, 3, 360), (40969, 10, 0, 377), (24638, 10, 0, 378), (40977, 10, 1, 379), (45231, 10, 1, 380), (24648, 10, 1, 381), (16513, 10, 1, 382), (45259, 10, 2, 383), (41053, 10, 2, 384), (45262, 10, 3, 385), (41056, 10, 3, 386), (45265, 10, 4, 387), (41059, 10, 4, 388), (40989, 10, 5, 389), (40980, 10, 6, 390), (40983, 10, 7, 391), (40986, 10, 8, 392), (32784, 8, 0, 419), (32779, 8, 1, 420), (24682, 6, 0, 433), (45323, 6, 0, 434), (24686, 6, 1, 435), (45326, 6, 1, 436), (24611, 6, 2, 437), (24615, 6, 3, 438), (24585, 6, 4, 439), (24591, 6, 5, 440), (24594, 6, 6, 441), (24597, 6, 7, 442), (24600, 6, 8, 443), (24605, 6, 9, 444), (24608, 6, 10, 445), (12303, 3, 0, 475), (12307, 3, 1, 476), (12310, 3, 2, 477), (12297, 3, 3, 478), (16393, 4, 0, 500), (16399, 4, 1, 501), (16402, 4, 2, 502), (16408, 4, 3, 503), (16417, 4, 4, 504), (16426, 4, 5, 505), (16430, 4, 6, 506), (4132, 1, 0, 529), (45194, 1, 0, 530), (4136, 1, 1, 531), (45402, 1, 1, 532)]
def jm_fl_3 : List (Nat × Nat × Nat × Nat) := [(4175, 1, 2, 533), (45386, 1, 2, 534), (4184, 1, 3, 535), (45389, 1, 3, 536), (4107, 1, 4, 537), (4111, 1, 5, 538), (4114, 1, 6, 539), (4117, 1, 7, 540), (4120, 1, 8, 541), (4125, 1, 9, 542), (4178, 1, 10, 543), (4181, 1, 11, 544), (45066, 11, 0, 570), (45077, 11, 1, 571), (45084, 11, 2, 572), (45093, 11, 3, 573), (45100, 11, 4, 574), (45107, 11, 5, 575), (45114, 11, 6, 576), (45123, 11, 7, 577), (45130, 11, 8, 578), (45137, 11, 9, 579), (45144, 11, 10, 580), (45148, 11, 11, 581), (45152, 11, 12, 582), (45156, 11, 13, 583), (45197, 11, 14, 584), (49159, 12, 0, 1443), (49165, 12, 1, 1444), (49393, 12, 2, 1445), (49314, 12, 3, 1446), (49317, 12, 4, 1447), (49168, 12, 5, 1448), (49337, 12, 6, 1449), (49334, 12, 7, 1450), (49344, 12, 8, 1451), (49362, 12, 9, 1452), (49351, 12, 10, 1453), (49172, 12, 11, 1454), (49176, 12, 12, 1455), (49179, 12, 13, 1456), (49182, 12, 14, 1457), (49185, 12, 15, 1458), (49188, 12, 16, 1459), (49191, 12, 17, 1460), (49194, 12, 18, 1461), (49197, 12, 19, 1462), (49201, 12, 20, 1463), (49205, 12, 21, 1464), (49396, 12, 22, 1465), (49390, 12, 23, 1466), (49208, 12, 24, 1467), (49211, 12, 25, 1468), (49214, 12, 26, 1469), (49405, 12, 27, 1470), (49217, 12, 28, 1471), (49445, 12, 29, 1472), (49448, 12, 30, 1473), (49220, 12, 31, 1474), (49223, 12, 32, 1475)]
def jm_fl_4 : List (Nat × Nat × Nat × Nat) := [(49226, 12, 33, 1476), (49229, 12, 34, 1477), (49232, 12, 35, 1478), (49235, 12, 36, 1479), (49238, 12, 37, 1480), (49242, 12, 38, 1481), (49570, 12, 39, 1482), (49573, 12, 40, 1483), (49245, 12, 41, 1484), (49248, 12, 42, 1485), (49251, 12, 43, 1486), (49254, 12, 44, 1487), (49257, 12, 45, 1488), (49260, 12, 46, 1489), (49263, 12, 47, 1490), (49585, 12, 48, 1491), (49588, 12, 49, 1492), (49579, 12, 50, 1493), (49582, 12, 51, 1494), (49600, 12, 52, 1495), (49266, 12, 53, 1496), (49269, 12, 54, 1497), (49272, 12, 55, 1498), (49275, 12, 56, 1499), (49278, 12, 57, 1500), (49281, 12, 58, 1501), (49284, 12, 59, 1502), (49287, 12, 60, 1503), (49290, 12, 61, 1504), (49293, 12, 62, 1505), (49296, 12, 63, 1506), (49299, 12, 64, 1507), (49402, 12, 65, 1508), (49652, 12, 66, 1509), (49302, 12, 67, 1510), (49305, 12, 68, 1511)]
def jm_fl : List (Nat × Nat × Nat × Nat) := jm_fl_1 ++ (jm_fl_2 ++ (jm_fl_3 ++ (jm_fl_4)))
def jm_flq (q : Nat × Nat × Nat × Nat) : Bool := match vwCl[q.2.1]? with
  | some (_, T, N) => decide (q.2.2.1 < N) && decide (lw_tbl[q.2.2.2]? = some (.fieldLink (jm_cn (q.1 / 4096)) (q.1 % 4096) (T q.2.2.1).1 (T q.2.2.1).2.1 (T q.2.2.1).2.2.1))
  | none => false
set_option maxRecDepth 100000 in
theorem jm_fl_all : jm_fl.all jm_flq = true := by decide +kernel
def jm_co_1 : List (Nat × Int32 × Nat) := [(24647, (1000000), 1063), (24674, (-1000000), 1082), (24685, (2000000000), 1112), (8278, (65535), 1195), (53513, (1431655765), 1307), (53514, (858993459), 1308), (53515, (252645135), 1309), (53512, (65536), 1316), (4139, (100000), 1359), (49241, (65536), 1426), (49655, (100000), 2105)]
def jm_co : List (Nat × Int32 × Nat) := jm_co_1
set_option maxRecDepth 100000 in
theorem jm_co_all : jm_co.all (fun q => decide (lw_tbl[q.2.2]? = some (.constant (jm_cn (q.1 / 4096)) (q.1 % 4096) q.2.1))) = true := by decide +kernel
def jm_cl_1 : List (Nat × Int64 × Nat) := [(16452, (15), 987), (49320, (448546567013), 1669), (49322, (24948), 1670), (49324, (126943972648308), 1671), (49326, (123580963646565), 1672), (49328, (1667330676), 1673), (49330, (29807), 1674), (49332, (1685217655), 1675), (49610, (2), 2024), (49628, (15), 2049)]
def jm_cl : List (Nat × Int64 × Nat) := jm_cl_1
set_option maxRecDepth 100000 in
theorem jm_cl_all : jm_cl.all (fun q => decide (lw_tbl[q.2.2]? = some (.constantLong (jm_cn (q.1 / 4096)) (q.1 % 4096) q.2.1))) = true := by decide +kernel
def jm_ly_1 : List (Nat × Nat × Nat) := [(0, 0, 361), (0, 1, 363), (0, 2, 365), (0, 3, 367), (1, 0, 545), (1, 1, 547), (1, 2, 549), (1, 3, 551), (1, 4, 553), (1, 5, 555), (1, 6, 557), (1, 7, 559), (1, 8, 561), (1, 9, 563), (1, 10, 565), (1, 11, 567), (2, 0, 323), (2, 1, 325), (2, 2, 327), (2, 3, 329), (2, 4, 331), (2, 5, 333), (2, 6, 335), (2, 7, 337), (2, 8, 339), (2, 9, 341), (2, 10, 343), (3, 0, 479), (3, 1, 481), (3, 2, 483), (3, 3, 485), (4, 0, 507), (4, 1, 509), (4, 2, 511), (4, 3, 513), (4, 4, 515), (4, 5, 517), (4, 6, 519), (5, 0, 279), (5, 1, 281), (5, 2, 283), (5, 3, 285), (5, 4, 287), (5, 5, 289), (5, 6, 291), (5, 7, 293), (5, 8, 295), (5, 9, 297), (6, 0, 446), (6, 1, 448), (6, 2, 450), (6, 3, 452), (6, 4, 454), (6, 5, 456), (6, 6, 458), (6, 7, 460), (6, 8, 462), (6, 9, 464), (6, 10, 466), (7, 0, 195)]
def jm_ly_2 : List (Nat × Nat × Nat) := [(7, 1, 197), (7, 2, 199), (7, 3, 201), (7, 4, 203), (7, 5, 205), (7, 6, 207), (8, 0, 421), (8, 1, 423), (9, 0, 251), (9, 1, 253), (9, 2, 255), (9, 3, 257), (9, 4, 259), (10, 0, 393), (10, 1, 395), (10, 2, 397), (10, 3, 399), (10, 4, 401), (10, 5, 403), (10, 6, 405), (10, 7, 407), (10, 8, 409), (11, 0, 585), (11, 1, 587), (11, 2, 589), (11, 3, 591), (11, 4, 593), (11, 5, 595), (11, 6, 597), (11, 7, 599), (11, 8, 601), (11, 9, 603), (11, 10, 605), (11, 11, 607), (11, 12, 609), (11, 13, 611), (11, 14, 613), (12, 0, 1512), (12, 1, 1514), (12, 2, 1516), (12, 3, 1518), (12, 4, 1520), (12, 5, 1522), (12, 6, 1524), (12, 7, 1526), (12, 8, 1528), (12, 9, 1530), (12, 10, 1532), (12, 11, 1534), (12, 12, 1536), (12, 13, 1538), (12, 14, 1540), (12, 15, 1542), (12, 16, 1544), (12, 17, 1546), (12, 18, 1548), (12, 19, 1550), (12, 20, 1552), (12, 21, 1554), (12, 22, 1556)]
def jm_ly_3 : List (Nat × Nat × Nat) := [(12, 23, 1558), (12, 24, 1560), (12, 25, 1562), (12, 26, 1564), (12, 27, 1566), (12, 28, 1568), (12, 29, 1570), (12, 30, 1572), (12, 31, 1574), (12, 32, 1576), (12, 33, 1578), (12, 34, 1580), (12, 35, 1582), (12, 36, 1584), (12, 37, 1586), (12, 38, 1588), (12, 39, 1590), (12, 40, 1592), (12, 41, 1594), (12, 42, 1596), (12, 43, 1598), (12, 44, 1600), (12, 45, 1602), (12, 46, 1604), (12, 47, 1606), (12, 48, 1608), (12, 49, 1610), (12, 50, 1612), (12, 51, 1614), (12, 52, 1616), (12, 53, 1618), (12, 54, 1620), (12, 55, 1622), (12, 56, 1624), (12, 57, 1626), (12, 58, 1628), (12, 59, 1630), (12, 60, 1632), (12, 61, 1634), (12, 62, 1636), (12, 63, 1638), (12, 64, 1640), (12, 65, 1642), (12, 66, 1644), (12, 67, 1646), (12, 68, 1648)]
def jm_ly : List (Nat × Nat × Nat) := jm_ly_1 ++ (jm_ly_2 ++ (jm_ly_3))
def jm_lyq (q : Nat × Nat × Nat) : Bool := match vwCl[q.1]? with
  | some (C, T, _) => decide (lw_tbl[q.2.2]? = some (u_lay C T q.2.1))
  | none => false
set_option maxRecDepth 100000 in
theorem jm_ly_all : jm_ly.all jm_lyq = true := by decide +kernel
set_option maxRecDepth 100000 in
theorem jm_ly_has : (List.range 13).all (fun ci => match vwCl[ci]? with
  | some (_, _, N) => (List.range N).all (fun k => jm_ly.any (fun q => q.1 == ci && q.2.1 == k))
  | none => false) = true := by decide +kernel
def jm_ms_1 : List (MethodName × ByteArray × Nat × Option FieldType × Nat × Nat) := [(⟨"OneWayTown$Acts", "<init>", "()V"⟩, prog_2_method_1_code, 2, none, 0, 0), (⟨"OneWayTown$Acts", "start", "(LOneWayTown$Town;)V"⟩, prog_2_method_2_code, 2, none, 0, 0), (⟨"OneWayTown$Acts", "current", "()LOneWayTown$Town;"⟩, prog_2_method_6_code, 1, (some (.object "OneWayTown$Town")), 0, 0), (⟨"OneWayTown$Acts", "keep", "(LOneWayTown$Town;)V"⟩, prog_2_method_3_code, 2, none, 0, 0), (⟨"OneWayTown$Acts", "stepBack", "(LOneWayTown$Town;)Z"⟩, prog_2_method_4_code, 2, (some .boolean), 0, 0), (⟨"OneWayTown$Acts", "stepOn", "(LOneWayTown$Town;)Z"⟩, prog_2_method_5_code, 2, (some .boolean), 0, 0), (⟨"OneWayTown$Doors", "<init>", "()V"⟩, prog_3_method_1_code, 1, none, 1, 0), (⟨"OneWayTown$Doors", "tell", "(III)I"⟩, prog_3_method_2_code, 4, (some .int), 1, 0), (⟨"OneWayTown$Doors", "isDoor", "(I)Z"⟩, prog_3_method_3_code, 1, (some .boolean), 1, 1), (⟨"OneWayTown$Doors", "takeBack", "(I)Z"⟩, prog_3_method_4_code, 2, (some .boolean), 1, 0), (⟨"OneWayTown$Doors", "passTime", "(I)I"⟩, prog_3_method_5_code, 2, (some .int), 1, 0), (⟨"OneWayTown$Doors", "learn", "(II)Z"⟩, prog_3_method_6_code, 5, (some .boolean), 1, 0), (⟨"OneWayTown$Doors", "isWhole", "(I)Z"⟩, prog_3_method_7_code, 4, (some .boolean), 1, 0), (⟨"OneWayTown$Doors", "firstWrong", "(I)I"⟩, prog_3_method_8_code, 3, (some .int), 1, 0), (⟨"OneWayTown$Doors", "firstWrongWithout", "(III)I"⟩, prog_3_method_9_code, 6, (some .int), 1, 0), (⟨"OneWayTown$Doors", "isThreeRight", "(I)Z"⟩, prog_3_method_10_code, 8, (some .boolean), 1, 0), (⟨"OneWayTown$Doors", "mend", "(I)Z"⟩, prog_3_method_11_code, 4, (some .boolean), 1, 0), (⟨"OneWayTown$Doors", "canMend", "(III)Z"⟩, prog_3_method_12_code, 7, (some .boolean), 1, 0), (⟨"OneWayTown$Doors", "boundByThird", "(III)V"⟩, prog_3_method_13_code, 4, none, 1, 0), (⟨"OneWayTown$Doors", "boundByTwo", "(IIII)V"⟩, prog_3_method_14_code, 8, none, 1, 0), (⟨"OneWayTown$Fleet", "<init>", "(LOneWayTown$Town;)V"⟩, prog_4_method_1_code, 2, none, 2, 0), (⟨"OneWayTown$Fleet", "set", "(I[I[I)V"⟩, prog_4_method_2_code, 5, none, 2, 0), (⟨"OneWayTown$Fleet", "forget", "()V"⟩, prog_4_method_3_code, 1, none, 2, 0), (⟨"OneWayTown$Fleet", "needsHouse", "(I)Z"⟩, prog_4_method_4_code, 3, (some .boolean), 2, 0), (⟨"OneWayTown$Fleet", "solve", "()I"⟩, prog_4_method_5_code, 1, (some .int), 2, 0), (⟨"OneWayTown$Fleet", "search", "()V"⟩, prog_4_method_9_code, 4, none, 2, 0), (⟨"OneWayTown$Fleet", "listNeighbours", "()V"⟩, prog_4_method_10_code, 3, none, 2, 0), (⟨"OneWayTown$Fleet", "pack", "([I)I"⟩, prog_4_method_11_code, 4, (some .int), 2, 0), (⟨"OneWayTown$Fleet", "comeTo", "(III)V"⟩, prog_4_method_13_code, 5, none, 2, 0), (⟨"OneWayTown$Fleet", "goOn", "(II)V"⟩, prog_4_method_12_code, 11, none, 2, 0), (⟨"OneWayTown$Fleet", "firstCart", "()I"⟩, prog_4_method_6_code, 1, (some .int), 2, 0), (⟨"OneWayTown$Fleet", "firstStep", "()I"⟩, prog_4_method_8_code, 1, (some .int), 2, 0), (⟨"OneWayTown$Fleet", "firstHouse", "()I"⟩, prog_4_method_7_code, 1, (some .int), 2, 0), (⟨"OneWayTown$Likeness", "<init>", "(LOneWayTown$Town;)V"⟩, prog_5_method_1_code, 2, none, 3, 0), (⟨"OneWayTown$Likeness", "isLike", "(LOneWayTown$Town;LOneWayTown$Town;Z)Z"⟩, prog_5_method_2_code, 4, (some .boolean), 3, 0), (⟨"OneWayTown$Likeness", "countLikeRoots", "()I"⟩, prog_5_method_4_code, 3, (some .int), 3, 0), (⟨"OneWayTown$Likeness", "isBranchLike", "(IIIII)Z"⟩, prog_5_method_7_code, 11, (some .boolean), 3, 0), (⟨"OneWayTown$Likeness", "isStreetLike", "(II)Z"⟩, prog_5_method_6_code, 3, (some .boolean), 3, 0), (⟨"OneWayTown$Likeness", "countSelves", "(LOneWayTown$Town;Z)J"⟩, prog_5_method_3_code, 6, (some .long), 3, 0), (⟨"OneWayTown$Likeness", "countLikeAhead", "(I)I"⟩, prog_5_method_5_code, 5, (some .int), 3, 0), (⟨"OneWayTown$Likeness", "countUnlike", "(I)I"⟩, prog_5_method_8_code, 4, (some .int), 3, 0), (⟨"OneWayTown$Likeness", "countRooted", "(I)V"⟩, prog_5_method_9_code, 5, none, 3, 0), (⟨"OneWayTown$Likeness", "sumOfDivisors", "(I)I"⟩, prog_5_method_10_code, 4, (some .int), 3, 0), (⟨"OneWayTown$Marks", "<init>", "()V"⟩, prog_6_method_1_code, 1, none, 4, 0), (⟨"OneWayTown$Marks", "take", "(IJ)Z"⟩, prog_6_method_5_code, 5, (some .boolean), 4, 0), (⟨"OneWayTown$Marks", "plant", "(ILOneWayTown$Town;)V"⟩, prog_6_method_6_code, 4, none, 4, 0), (⟨"OneWayTown$Marks", "linkFirstEnd", "(II)V"⟩, prog_6_method_7_code, 4, none, 4, 0), (⟨"OneWayTown$Marks", "firstEnd", "(I)I"⟩, prog_6_method_3_code, 3, (some .int), 4, 0), (⟨"OneWayTown$Marks", "hangAll", "(ILOneWayTown$Town;)V"⟩, prog_6_method_8_code, 6, none, 4, 0), (⟨"OneWayTown$Marks", "hangNext", "(LOneWayTown$Town;II)I"⟩, prog_6_method_9_code, 4, (some .int), 4, 1), (⟨"OneWayTown$Marks", "tell", "(LOneWayTown$Town;[I)I"⟩, prog_6_method_2_code, 7, (some .int), 4, 0), (⟨"OneWayTown$Marks", "lastNeighbour", "(LOneWayTown$Town;I)I"⟩, prog_6_method_4_code, 4, (some .int), 4, 0), (⟨"OneWayTown$Marks", "tryLaw", "(II)I"⟩, prog_6_method_10_code, 4, (some .int), 4, 0), (⟨"OneWayTown$Marks", "countBroken", "(II)I"⟩, prog_6_method_11_code, 8, (some .int), 4, 0), (⟨"OneWayTown$Marks", "holds", "(I)Z"⟩, prog_6_method_12_code, 2, (some .boolean), 4, 0), (⟨"OneWayTown$Marks", "isMiddleOneOrTwo", "()Z"⟩, prog_6_method_13_code, 6, (some .boolean), 4, 0), (⟨"OneWayTown$Marks", "areAllFoursLike", "()Z"⟩, prog_6_method_14_code, 2, (some .boolean), 4, 0), (⟨"OneWayTown$Marks", "isFourLike", "([[II)Z"⟩, prog_6_method_15_code, 12, (some .boolean), 4, 1), (⟨"OneWayTown$Marks", "wardensByEnds", "()I"⟩, prog_6_method_16_code, 6, (some .int), 4, 0), (⟨"OneWayTown$Marks", "farthestOf", "(I)I"⟩, prog_6_method_17_code, 5, (some .int), 4, 0)]
def jm_ms_2 : List (MethodName × ByteArray × Nat × Option FieldType × Nat × Nat) := [(⟨"OneWayTown$Reader", "<init>", "(LOneWayTown$Tape;)V"⟩, prog_7_method_1_code, 2, none, 5, 0), (⟨"OneWayTown$Reader", "read", "()Z"⟩, prog_7_method_2_code, 3, (some .boolean), 5, 0), (⟨"OneWayTown$Reader", "readHouse", "()Z"⟩, prog_7_method_3_code, 6, (some .boolean), 5, 0), (⟨"OneWayTown$Reader", "isNewName", "([JI)Z"⟩, prog_7_method_6_code, 3, (some .boolean), 5, 0), (⟨"OneWayTown$Reader", "misplaced", "()Z"⟩, prog_7_method_13_code, 1, (some .boolean), 5, 0), (⟨"OneWayTown$Reader", "blame", "(I)Z"⟩, prog_7_method_14_code, 2, (some .boolean), 5, 0), (⟨"OneWayTown$Reader", "find", "(J[JI)I"⟩, prog_7_method_12_code, 5, (some .int), 5, 1), (⟨"OneWayTown$Reader", "takeToken", "(I)Z"⟩, prog_7_method_7_code, 2, (some .boolean), 5, 0), (⟨"OneWayTown$Reader", "takeHouse", "()I"⟩, prog_7_method_9_code, 2, (some .int), 5, 0), (⟨"OneWayTown$Reader", "knownHouse", "()I"⟩, prog_7_method_11_code, 2, (some .int), 5, 0), (⟨"OneWayTown$Reader", "takeNumber", "(II)I"⟩, prog_7_method_8_code, 4, (some .int), 5, 0), (⟨"OneWayTown$Reader", "readCart", "()Z"⟩, prog_7_method_4_code, 5, (some .boolean), 5, 0), (⟨"OneWayTown$Reader", "takeFreeHouse", "([II)I"⟩, prog_7_method_10_code, 6, (some .int), 5, 0), (⟨"OneWayTown$Reader", "readDraw", "()Z"⟩, prog_7_method_5_code, 2, (some .boolean), 5, 0), (⟨"OneWayTown$Sets", "<init>", "(LOneWayTown$Town;LOneWayTown$Ways;)V"⟩, prog_8_method_1_code, 3, none, 6, 0), (⟨"OneWayTown$Sets", "wardenMask", "(I)I"⟩, prog_8_method_2_code, 5, (some .int), 6, 0), (⟨"OneWayTown$Sets", "leastWardens", "(I)I"⟩, prog_8_method_3_code, 2, (some .int), 6, 0), (⟨"OneWayTown$Sets", "freeAll", "()V"⟩, prog_8_method_5_code, 2, none, 6, 0), (⟨"OneWayTown$Sets", "wardensWithChoices", "(I)I"⟩, prog_8_method_6_code, 5, (some .int), 6, 0), (⟨"OneWayTown$Sets", "price", "(I)I"⟩, prog_8_method_7_code, 2, (some .int), 6, 0), (⟨"OneWayTown$Sets", "serve", "(II)V"⟩, prog_8_method_8_code, 6, none, 6, 0), (⟨"OneWayTown$Sets", "quietMask", "()I"⟩, prog_8_method_9_code, 2, (some .int), 6, 0), (⟨"OneWayTown$Sets", "apartMask", "(II)I"⟩, prog_8_method_11_code, 6, (some .int), 6, 0), (⟨"OneWayTown$Sets", "heaviestApart", "()I"⟩, prog_8_method_12_code, 4, (some .int), 6, 0), (⟨"OneWayTown$Sets", "guardMask", "()I"⟩, prog_8_method_10_code, 2, (some .int), 6, 0), (⟨"OneWayTown$Sets", "leastReach", "(I)I"⟩, prog_8_method_4_code, 6, (some .int), 6, 0), (⟨"OneWayTown$Sets", "openShops", "(I)V"⟩, prog_8_method_17_code, 3, none, 6, 0), (⟨"OneWayTown$Sets", "openMore", "(IIII)V"⟩, prog_8_method_18_code, 8, none, 6, 0), (⟨"OneWayTown$Sets", "sumWith", "(II)I"⟩, prog_8_method_19_code, 7, (some .int), 6, 0), (⟨"OneWayTown$Sets", "countApart", "()I"⟩, prog_8_method_13_code, 4, (some .int), 6, 0), (⟨"OneWayTown$Sets", "startCount", "(I)V"⟩, prog_8_method_16_code, 3, none, 6, 0), (⟨"OneWayTown$Sets", "countTogether", "()I"⟩, prog_8_method_14_code, 4, (some .int), 6, 0), (⟨"OneWayTown$Sets", "countStreetSets", "()I"⟩, prog_8_method_15_code, 5, (some .int), 6, 0), (⟨"OneWayTown$Tape", "<init>", "()V"⟩, prog_9_method_1_code, 1, none, 7, 0), (⟨"OneWayTown$Tape", "add", "(I)V"⟩, prog_9_method_2_code, 3, none, 7, 0), (⟨"OneWayTown$Tape", "restart", "()V"⟩, prog_9_method_3_code, 1, none, 7, 0), (⟨"OneWayTown$Tape", "step", "()V"⟩, prog_9_method_4_code, 1, none, 7, 0), (⟨"OneWayTown$Tape", "isLetter", "(I)Z"⟩, prog_9_method_5_code, 2, (some .boolean), 7, 0), (⟨"OneWayTown$Tape", "readWord", "()V"⟩, prog_9_method_7_code, 1, none, 7, 0), (⟨"OneWayTown$Tape", "kindOfWord", "()I"⟩, prog_9_method_9_code, 1, (some .int), 7, 0), (⟨"OneWayTown$Tape", "spells", "(Ljava/lang/String;)Z"⟩, prog_9_method_10_code, 3, (some .boolean), 7, 0), (⟨"OneWayTown$Tape", "isDigit", "(I)Z"⟩, prog_9_method_6_code, 2, (some .boolean), 7, 0), (⟨"OneWayTown$Tape", "readNumber", "()V"⟩, prog_9_method_8_code, 2, none, 7, 0), (⟨"OneWayTown$Telling", "<init>", "(LOneWayTown$Town;)V"⟩, prog_10_method_1_code, 2, none, 8, 0), (⟨"OneWayTown$Telling", "hoursFrom", "(IZ)I"⟩, prog_10_method_2_code, 3, (some .int), 8, 0), (⟨"OneWayTown$Telling", "hoursBehind", "(IIZI)I"⟩, prog_10_method_3_code, 10, (some .int), 8, 0), (⟨"OneWayTown$Telling", "insert", "([III)V"⟩, prog_10_method_4_code, 4, none, 8, 1), (⟨"OneWayTown$Town", "<init>", "()V"⟩, prog_11_method_1_code, 1, none, 9, 0), (⟨"OneWayTown$Town", "clear", "()V"⟩, prog_11_method_2_code, 1, none, 9, 0), (⟨"OneWayTown$Town", "add", "(III)I"⟩, prog_11_method_5_code, 4, (some .int), 9, 0), (⟨"OneWayTown$Town", "copy", "(LOneWayTown$Town;)V"⟩, prog_11_method_3_code, 2, none, 9, 0), (⟨"OneWayTown$Town", "has", "(I)Z"⟩, prog_11_method_4_code, 2, (some .boolean), 9, 0), (⟨"OneWayTown$Town", "streetsAt", "(I)I"⟩, prog_11_method_7_code, 4, (some .int), 9, 0), (⟨"OneWayTown$Town", "streetBetween", "(II)I"⟩, prog_11_method_6_code, 3, (some .int), 9, 0), (⟨"OneWayTown$Town", "lengthTogether", "()I"⟩, prog_11_method_10_code, 3, (some .int), 9, 0), (⟨"OneWayTown$Town", "isWithin", "(II)Z"⟩, prog_11_method_8_code, 5, (some .boolean), 9, 0), (⟨"OneWayTown$Town", "passYear", "()V"⟩, prog_11_method_11_code, 2, none, 9, 0), (⟨"OneWayTown$Town", "burn", "()V"⟩, prog_11_method_12_code, 2, none, 9, 0), (⟨"OneWayTown$Town", "peopleTogether", "()I"⟩, prog_11_method_9_code, 3, (some .int), 9, 0), (⟨"OneWayTown$Ways", "<init>", "(LOneWayTown$Town;)V"⟩, prog_12_method_1_code, 2, none, 10, 0)]
def jm_ms_3 : List (MethodName × ByteArray × Nat × Option FieldType × Nat × Nat) := [(⟨"OneWayTown$Ways", "measure", "()V"⟩, prog_12_method_2_code, 6, none, 10, 0), (⟨"OneWayTown$Ways", "sortFromFirst", "()V"⟩, prog_12_method_3_code, 4, none, 10, 0), (⟨"OneWayTown$Ways", "walk", "(II[I)I"⟩, prog_12_method_4_code, 6, (some .int), 10, 0), (⟨"OneWayTown$Ways", "nextToward", "(II)I"⟩, prog_12_method_5_code, 5, (some .int), 10, 0), (⟨"OneWayTown$Ways", "longestFrom", "(I)I"⟩, prog_12_method_6_code, 4, (some .int), 10, 0), (⟨"OneWayTown$Ways", "firstFarthest", "()I"⟩, prog_12_method_9_code, 3, (some .int), 10, 0), (⟨"OneWayTown$Ways", "longest", "()I"⟩, prog_12_method_7_code, 3, (some .int), 10, 0), (⟨"OneWayTown$Ways", "firstFarFrom", "(I)I"⟩, prog_12_method_10_code, 4, (some .int), 10, 0), (⟨"OneWayTown$Ways", "offMiddle", "(II)I"⟩, prog_12_method_11_code, 3, (some .int), 10, 0), (⟨"OneWayTown$Ways", "walkedTo", "(I)I"⟩, prog_12_method_12_code, 4, (some .int), 10, 0), (⟨"OneWayTown$Ways", "greatestQuarter", "(I)I"⟩, prog_12_method_13_code, 5, (some .int), 10, 0), (⟨"OneWayTown$Ways", "quartersWithout", "(I[I)I"⟩, prog_12_method_14_code, 5, (some .int), 10, 0), (⟨"OneWayTown$Ways", "sumBehind", "()V"⟩, prog_12_method_15_code, 3, none, 10, 0), (⟨"OneWayTown$Ways", "joinElsewhere", "(I)V"⟩, prog_12_method_16_code, 9, none, 10, 0), (⟨"OneWayTown$Ways", "maskWithin", "(I)I"⟩, prog_12_method_17_code, 4, (some .int), 10, 0), (⟨"OneWayTown$Ways", "measureParts", "(I)I"⟩, prog_12_method_18_code, 5, (some .int), 10, 0), (⟨"OneWayTown$Ways", "leastLongest", "()I"⟩, prog_12_method_8_code, 3, (some .int), 10, 0), (⟨"OneWayTown", "<init>", "()V"⟩, prog_1_method_1_code, 2, none, 11, 0), (⟨"OneWayTown", "feed", "(IIIII)I"⟩, prog_1_method_2_code, 6, (some .int), 11, 0), (⟨"OneWayTown", "end", "(I)I"⟩, prog_1_method_3_code, 2, (some .int), 11, 0), (⟨"OneWayTown", "town", "()I"⟩, prog_1_method_4_code, 2, (some .int), 11, 0), (⟨"OneWayTown", "renew", "()V"⟩, prog_1_method_47_code, 1, none, 11, 0), (⟨"OneWayTown", "fault", "(I)I"⟩, prog_1_method_5_code, 2, (some .int), 11, 0), (⟨"OneWayTown", "house", "(II)I"⟩, prog_1_method_6_code, 3, (some .int), 11, 0), (⟨"OneWayTown", "way", "(II)I"⟩, prog_1_method_7_code, 3, (some .int), 11, 0), (⟨"OneWayTown", "far", "(I)I"⟩, prog_1_method_8_code, 2, (some .int), 11, 0), (⟨"OneWayTown", "farthest", "(I)I"⟩, prog_1_method_9_code, 4, (some .int), 11, 0), (⟨"OneWayTown", "middle", "(I)I"⟩, prog_1_method_10_code, 4, (some .int), 11, 0), (⟨"OneWayTown", "post", "(IZ)I"⟩, prog_1_method_11_code, 4, (some .int), 11, 0), (⟨"OneWayTown", "quarters", "(I)I"⟩, prog_1_method_12_code, 2, (some .int), 11, 0), (⟨"OneWayTown", "joined", "(II)I"⟩, prog_1_method_13_code, 3, (some .int), 11, 0), (⟨"OneWayTown", "grow", "(III)I"⟩, prog_1_method_14_code, 5, (some .int), 11, 0), (⟨"OneWayTown", "keepAct", "()V"⟩, prog_1_method_46_code, 1, none, 11, 0), (⟨"OneWayTown", "move", "(II)Z"⟩, prog_1_method_15_code, 3, (some .boolean), 11, 0), (⟨"OneWayTown", "live", "(II)I"⟩, prog_1_method_16_code, 4, (some .int), 11, 0), (⟨"OneWayTown", "years", "(I)I"⟩, prog_1_method_17_code, 3, (some .int), 11, 0), (⟨"OneWayTown", "grown", "(IJ)Z"⟩, prog_1_method_18_code, 4, (some .boolean), 11, 0), (⟨"OneWayTown", "undo", "()Z"⟩, prog_1_method_19_code, 1, (some .boolean), 11, 0), (⟨"OneWayTown", "redo", "()Z"⟩, prog_1_method_20_code, 1, (some .boolean), 11, 0), (⟨"OneWayTown", "image", "(I)I"⟩, prog_1_method_21_code, 2, (some .int), 11, 0), (⟨"OneWayTown", "back", "(I)I"⟩, prog_1_method_22_code, 2, (some .int), 11, 0), (⟨"OneWayTown", "isFilled", "(I)Z"⟩, prog_1_method_45_code, 2, (some .boolean), 11, 0), (⟨"OneWayTown", "wardens", "(I)I"⟩, prog_1_method_23_code, 2, (some .int), 11, 0), (⟨"OneWayTown", "quiet", "()I"⟩, prog_1_method_24_code, 1, (some .int), 11, 0), (⟨"OneWayTown", "guards", "()I"⟩, prog_1_method_25_code, 1, (some .int), 11, 0), (⟨"OneWayTown", "wells", "(I)I"⟩, prog_1_method_26_code, 3, (some .int), 11, 0), (⟨"OneWayTown", "lay", "(I)V"⟩, prog_1_method_48_code, 3, none, 11, 0), (⟨"OneWayTown", "shops", "(I)I"⟩, prog_1_method_27_code, 2, (some .int), 11, 0), (⟨"OneWayTown", "counted", "(I)I"⟩, prog_1_method_28_code, 2, (some .int), 11, 0), (⟨"OneWayTown", "news", "(I)I"⟩, prog_1_method_29_code, 2, (some .int), 11, 0), (⟨"OneWayTown", "tidings", "(I)I"⟩, prog_1_method_30_code, 2, (some .int), 11, 0), (⟨"OneWayTown", "bestNews", "()I"⟩, prog_1_method_31_code, 5, (some .int), 11, 0), (⟨"OneWayTown", "carts", "(I)I"⟩, prog_1_method_32_code, 3, (some .int), 11, 0), (⟨"OneWayTown", "alike", "(IZ)I"⟩, prog_1_method_33_code, 3, (some .int), 11, 0), (⟨"OneWayTown", "selves", "(Z)J"⟩, prog_1_method_34_code, 2, (some .long), 11, 0), (⟨"OneWayTown", "unlike", "(I)I"⟩, prog_1_method_35_code, 2, (some .int), 11, 0), (⟨"OneWayTown", "marks", "()I"⟩, prog_1_method_36_code, 1, (some .int), 11, 0), (⟨"OneWayTown", "tried", "(II)I"⟩, prog_1_method_37_code, 3, (some .int), 11, 0), (⟨"OneWayTown", "lies", "(I)I"⟩, prog_1_method_38_code, 2, (some .int), 11, 0), (⟨"OneWayTown", "distance", "(III)I"⟩, prog_1_method_39_code, 4, (some .int), 11, 0)]
def jm_ms_4 : List (MethodName × ByteArray × Nat × Option FieldType × Nat × Nat) := [(⟨"OneWayTown", "untell", "(I)Z"⟩, prog_1_method_40_code, 2, (some .boolean), 11, 0), (⟨"OneWayTown", "later", "(I)I"⟩, prog_1_method_41_code, 2, (some .int), 11, 0), (⟨"OneWayTown", "wrong", "(II)I"⟩, prog_1_method_42_code, 3, (some .int), 11, 0), (⟨"OneWayTown", "mended", "(III)I"⟩, prog_1_method_43_code, 4, (some .int), 11, 0), (⟨"OneWayTown", "about", "(I)I"⟩, prog_1_method_44_code, 2, (some .int), 11, 0), (⟨"OneWayTownModel", "<init>", "()V"⟩, prog_14_method_1_code, 2, none, 12, 0), (⟨"OneWayTownModel", "clearBank", "()V"⟩, prog_14_method_14_code, 1, none, 12, 0), (⟨"OneWayTownModel", "begin", "()V"⟩, prog_14_method_33_code, 2, none, 12, 0), (⟨"OneWayTownModel", "many", "()I"⟩, prog_14_method_27_code, 1, (some .int), 12, 0), (⟨"OneWayTownModel", "lay", "(IIII)V"⟩, prog_14_method_32_code, 5, none, 12, 0), (⟨"OneWayTownModel", "town", "()I"⟩, prog_14_method_15_code, 2, (some .int), 12, 0), (⟨"OneWayTownModel", "goOn", "()V"⟩, prog_14_method_8_code, 3, none, 12, 0), (⟨"OneWayTownModel", "sign", "(I)I"⟩, prog_14_method_2_code, 2, (some .int), 12, 0), (⟨"OneWayTownModel", "isLetter", "(I)Z"⟩, prog_14_method_3_code, 1, (some .boolean), 12, 1), (⟨"OneWayTownModel", "isKept", "(J)Z"⟩, prog_14_method_7_code, 2, (some .boolean), 12, 1), (⟨"OneWayTownModel", "isDigit", "(I)Z"⟩, prog_14_method_4_code, 1, (some .boolean), 12, 1), (⟨"OneWayTownModel", "isGood", "()Z"⟩, prog_14_method_6_code, 1, (some .boolean), 12, 0), (⟨"OneWayTownModel", "readLine", "()V"⟩, prog_14_method_17_code, 3, none, 12, 0), (⟨"OneWayTownModel", "isFull", "()Z"⟩, prog_14_method_16_code, 1, (some .boolean), 12, 0), (⟨"OneWayTownModel", "isWord", "(J)Z"⟩, prog_14_method_9_code, 3, (some .boolean), 12, 0), (⟨"OneWayTownModel", "misplaced", "()V"⟩, prog_14_method_10_code, 1, none, 12, 0), (⟨"OneWayTownModel", "fails", "(II)V"⟩, prog_14_method_5_code, 3, none, 12, 0), (⟨"OneWayTownModel", "readHouse", "()V"⟩, prog_14_method_22_code, 2, none, 12, 0), (⟨"OneWayTownModel", "houseHere", "()I"⟩, prog_14_method_19_code, 1, (some .int), 12, 0), (⟨"OneWayTownModel", "here", "([JII)I"⟩, prog_14_method_18_code, 5, (some .int), 12, 0), (⟨"OneWayTownModel", "fresh", "(Z)V"⟩, prog_14_method_20_code, 2, none, 12, 0), (⟨"OneWayTownModel", "must", "(Z)V"⟩, prog_14_method_11_code, 2, none, 12, 0), (⟨"OneWayTownModel", "known", "()I"⟩, prog_14_method_21_code, 2, (some .int), 12, 0), (⟨"OneWayTownModel", "after", "(JII)I"⟩, prog_14_method_13_code, 5, (some .int), 12, 0), (⟨"OneWayTownModel", "numeral", "(II)I"⟩, prog_14_method_12_code, 4, (some .int), 12, 0), (⟨"OneWayTownModel", "readCart", "()V"⟩, prog_14_method_23_code, 3, none, 12, 0), (⟨"OneWayTownModel", "fault", "(I)I"⟩, prog_14_method_24_code, 2, (some .int), 12, 0), (⟨"OneWayTownModel", "house", "(II)I"⟩, prog_14_method_40_code, 3, (some .int), 12, 0), (⟨"OneWayTownModel", "isHouse", "(I)Z"⟩, prog_14_method_28_code, 2, (some .boolean), 12, 0), (⟨"OneWayTownModel", "isIn", "(III)Z"⟩, prog_14_method_25_code, 3, (some .boolean), 12, 1), (⟨"OneWayTownModel", "hangsAt", "(I)I"⟩, prog_14_method_29_code, 2, (some .int), 12, 0), (⟨"OneWayTownModel", "streetOf", "(I)I"⟩, prog_14_method_30_code, 2, (some .int), 12, 0), (⟨"OneWayTownModel", "peopleOf", "(I)I"⟩, prog_14_method_31_code, 2, (some .int), 12, 0), (⟨"OneWayTownModel", "streetsOf", "(I)I"⟩, prog_14_method_35_code, 4, (some .int), 12, 0), (⟨"OneWayTownModel", "areNext", "(II)Z"⟩, prog_14_method_34_code, 3, (some .boolean), 12, 0), (⟨"OneWayTownModel", "lies", "(I)I"⟩, prog_14_method_41_code, 2, (some .int), 12, 0), (⟨"OneWayTownModel", "way", "(II)I"⟩, prog_14_method_43_code, 6, (some .int), 12, 0), (⟨"OneWayTownModel", "layWays", "()V"⟩, prog_14_method_38_code, 3, none, 12, 0), (⟨"OneWayTownModel", "wayOf", "(II)I"⟩, prog_14_method_37_code, 6, (some .int), 12, 0), (⟨"OneWayTownModel", "deepOf", "(I)I"⟩, prog_14_method_36_code, 4, (some .int), 12, 0), (⟨"OneWayTownModel", "add", "(I)V"⟩, prog_14_method_42_code, 2, none, 12, 0), (⟨"OneWayTownModel", "far", "(I)I"⟩, prog_14_method_44_code, 2, (some .int), 12, 0), (⟨"OneWayTownModel", "farOf", "(I)I"⟩, prog_14_method_39_code, 4, (some .int), 12, 0), (⟨"OneWayTownModel", "farthest", "(I)I"⟩, prog_14_method_45_code, 5, (some .int), 12, 0), (⟨"OneWayTownModel", "middle", "(I)I"⟩, prog_14_method_49_code, 4, (some .int), 12, 0), (⟨"OneWayTownModel", "worthOf", "(II)I"⟩, prog_14_method_48_code, 5, (some .int), 12, 0), (⟨"OneWayTownModel", "peopleBehind", "(II)I"⟩, prog_14_method_46_code, 5, (some .int), 12, 0), (⟨"OneWayTownModel", "isBetween", "(III)Z"⟩, prog_14_method_47_code, 4, (some .boolean), 12, 0), (⟨"OneWayTownModel", "post", "(IZ)I"⟩, prog_14_method_51_code, 3, (some .int), 12, 0), (⟨"OneWayTownModel", "streetsTogether", "()I"⟩, prog_14_method_50_code, 3, (some .int), 12, 0), (⟨"OneWayTownModel", "quarters", "(I)I"⟩, prog_14_method_52_code, 3, (some .int), 12, 0), (⟨"OneWayTownModel", "grow", "(III)I"⟩, prog_14_method_56_code, 4, (some .int), 12, 0), (⟨"OneWayTownModel", "keepAct", "()V"⟩, prog_14_method_53_code, 2, none, 12, 0), (⟨"OneWayTownModel", "grows", "(III)V"⟩, prog_14_method_55_code, 4, none, 12, 0), (⟨"OneWayTownModel", "move", "(II)Z"⟩, prog_14_method_58_code, 3, (some .boolean), 12, 0)]
def jm_ms_5 : List (MethodName × ByteArray × Nat × Option FieldType × Nat × Nat) := [(⟨"OneWayTownModel", "isBehind", "(II)Z"⟩, prog_14_method_57_code, 4, (some .boolean), 12, 0), (⟨"OneWayTownModel", "live", "(II)I"⟩, prog_14_method_59_code, 4, (some .int), 12, 0), (⟨"OneWayTownModel", "years", "(I)I"⟩, prog_14_method_61_code, 3, (some .int), 12, 0), (⟨"OneWayTownModel", "year", "()V"⟩, prog_14_method_60_code, 5, none, 12, 0), (⟨"OneWayTownModel", "undo", "()Z"⟩, prog_14_method_62_code, 1, (some .boolean), 12, 0), (⟨"OneWayTownModel", "exchange", "()V"⟩, prog_14_method_54_code, 3, none, 12, 0), (⟨"OneWayTownModel", "redo", "()Z"⟩, prog_14_method_63_code, 1, (some .boolean), 12, 0), (⟨"OneWayTownModel", "wardens", "(I)I"⟩, prog_14_method_68_code, 2, (some .int), 12, 0), (⟨"OneWayTownModel", "wardensBy", "(I)I"⟩, prog_14_method_67_code, 6, (some .int), 12, 0), (⟨"OneWayTownModel", "layNear", "(I)V"⟩, prog_14_method_66_code, 4, none, 12, 0), (⟨"OneWayTownModel", "sets", "()I"⟩, prog_14_method_65_code, 1, (some .int), 12, 0), (⟨"OneWayTownModel", "bitsOf", "(I)I"⟩, prog_14_method_26_code, 3, (some .int), 12, 1), (⟨"OneWayTownModel", "isFirst", "(II)Z"⟩, prog_14_method_64_code, 3, (some .boolean), 12, 1), (⟨"OneWayTownModel", "quiet", "()I"⟩, prog_14_method_71_code, 4, (some .int), 12, 0), (⟨"OneWayTownModel", "isApart", "(I)Z"⟩, prog_14_method_69_code, 3, (some .boolean), 12, 0), (⟨"OneWayTownModel", "peopleIn", "(I)I"⟩, prog_14_method_70_code, 4, (some .int), 12, 0), (⟨"OneWayTownModel", "guards", "()I"⟩, prog_14_method_72_code, 4, (some .int), 12, 0), (⟨"OneWayTownModel", "wells", "(I)I"⟩, prog_14_method_73_code, 5, (some .int), 12, 0), (⟨"OneWayTownModel", "nextFar", "(I)I"⟩, prog_14_method_74_code, 6, (some .int), 12, 0), (⟨"OneWayTownModel", "shops", "(I)I"⟩, prog_14_method_76_code, 7, (some .int), 12, 0), (⟨"OneWayTownModel", "shopsBy", "(I)I"⟩, prog_14_method_75_code, 6, (some .int), 12, 0), (⟨"OneWayTownModel", "counted", "(I)I"⟩, prog_14_method_79_code, 5, (some .int), 12, 0), (⟨"OneWayTownModel", "isWhole", "(I)Z"⟩, prog_14_method_77_code, 4, (some .boolean), 12, 0), (⟨"OneWayTownModel", "areSingle", "(I)Z"⟩, prog_14_method_78_code, 4, (some .boolean), 12, 0), (⟨"OneWayTownModel", "news", "(I)I"⟩, prog_14_method_83_code, 2, (some .int), 12, 0), (⟨"OneWayTownModel", "newsFrom", "(IZ)I"⟩, prog_14_method_82_code, 9, (some .int), 12, 0), (⟨"OneWayTownModel", "layOrder", "(I)V"⟩, prog_14_method_80_code, 5, none, 12, 0), (⟨"OneWayTownModel", "lengthOf", "(II)I"⟩, prog_14_method_81_code, 3, (some .int), 12, 0), (⟨"OneWayTownModel", "tidings", "(I)I"⟩, prog_14_method_84_code, 2, (some .int), 12, 0), (⟨"OneWayTownModel", "bestNews", "()I"⟩, prog_14_method_85_code, 5, (some .int), 12, 0), (⟨"OneWayTownModel", "carts", "(I)I"⟩, prog_14_method_91_code, 3, (some .int), 12, 0), (⟨"OneWayTownModel", "cartsBack", "()I"⟩, prog_14_method_89_code, 8, (some .int), 12, 0), (⟨"OneWayTownModel", "stateOf", "([I)I"⟩, prog_14_method_87_code, 4, (some .int), 12, 0), (⟨"OneWayTownModel", "place", "(II)I"⟩, prog_14_method_86_code, 3, (some .int), 12, 0), (⟨"OneWayTownModel", "isTaken", "(II)Z"⟩, prog_14_method_88_code, 4, (some .boolean), 12, 0), (⟨"OneWayTownModel", "layFirst", "(I)I"⟩, prog_14_method_90_code, 5, (some .int), 12, 0), (⟨"OneWayTownModel", "alike", "(IZ)I"⟩, prog_14_method_98_code, 6, (some .int), 12, 0), (⟨"OneWayTownModel", "markOf", "(Z)I"⟩, prog_14_method_97_code, 5, (some .int), 12, 0), (⟨"OneWayTownModel", "layMiddle", "()V"⟩, prog_14_method_92_code, 5, none, 12, 0), (⟨"OneWayTownModel", "fold", "(IIZ)I"⟩, prog_14_method_94_code, 10, (some .int), 12, 0), (⟨"OneWayTownModel", "isCutOff", "(III)Z"⟩, prog_14_method_95_code, 5, (some .boolean), 12, 0), (⟨"OneWayTownModel", "takeTurns", "(I)V"⟩, prog_14_method_96_code, 4, none, 12, 0), (⟨"OneWayTownModel", "partNumber", "(I)I"⟩, prog_14_method_93_code, 5, (some .int), 12, 0), (⟨"OneWayTownModel", "selves", "(Z)J"⟩, prog_14_method_99_code, 2, (some .long), 12, 0), (⟨"OneWayTownModel", "unlike", "(I)I"⟩, prog_14_method_101_code, 5, (some .int), 12, 0), (⟨"OneWayTownModel", "layRooted", "()V"⟩, prog_14_method_100_code, 8, none, 12, 0), (⟨"OneWayTownModel", "marks", "()I"⟩, prog_14_method_103_code, 1, (some .int), 12, 0), (⟨"OneWayTownModel", "layMarks", "()V"⟩, prog_14_method_102_code, 5, none, 12, 0), (⟨"OneWayTownModel", "grown", "(IJ)Z"⟩, prog_14_method_107_code, 5, (some .boolean), 12, 0), (⟨"OneWayTownModel", "growsFrom", "(I)V"⟩, prog_14_method_104_code, 4, none, 12, 0), (⟨"OneWayTownModel", "joins", "(II)V"⟩, prog_14_method_105_code, 3, none, 12, 0), (⟨"OneWayTownModel", "hangAll", "(I)V"⟩, prog_14_method_106_code, 5, none, 12, 0), (⟨"OneWayTownModel", "tried", "(II)I"⟩, prog_14_method_113_code, 8, (some .int), 12, 0), (⟨"OneWayTownModel", "isSo", "(I)Z"⟩, prog_14_method_112_code, 2, (some .boolean), 12, 0), (⟨"OneWayTownModel", "isSoByFar", "()Z"⟩, prog_14_method_108_code, 6, (some .boolean), 12, 0), (⟨"OneWayTownModel", "isSoByFour", "()Z"⟩, prog_14_method_110_code, 5, (some .boolean), 12, 0), (⟨"OneWayTownModel", "isFourSo", "(III)Z"⟩, prog_14_method_109_code, 3, (some .boolean), 12, 1), (⟨"OneWayTownModel", "byEnds", "()I"⟩, prog_14_method_111_code, 4, (some .int), 12, 0), (⟨"OneWayTownModel", "joined", "(II)I"⟩, prog_14_method_115_code, 8, (some .int), 12, 0), (⟨"OneWayTownModel", "longestBy", "(III)I"⟩, prog_14_method_114_code, 8, (some .int), 12, 0)]
def jm_ms_6 : List (MethodName × ByteArray × Nat × Option FieldType × Nat × Nat) := [(⟨"OneWayTownModel", "distance", "(III)I"⟩, prog_14_method_116_code, 4, (some .int), 12, 0), (⟨"OneWayTownModel", "untell", "(I)Z"⟩, prog_14_method_117_code, 2, (some .boolean), 12, 0), (⟨"OneWayTownModel", "later", "(I)I"⟩, prog_14_method_118_code, 2, (some .int), 12, 0), (⟨"OneWayTownModel", "wrong", "(II)I"⟩, prog_14_method_125_code, 3, (some .int), 12, 0), (⟨"OneWayTownModel", "layKnown", "(II)Z"⟩, prog_14_method_120_code, 5, (some .boolean), 12, 0), (⟨"OneWayTownModel", "set", "(III)V"⟩, prog_14_method_119_code, 4, none, 12, 0), (⟨"OneWayTownModel", "wrongOf", "(I)I"⟩, prog_14_method_122_code, 7, (some .int), 12, 0), (⟨"OneWayTownModel", "nextDoor", "(II)I"⟩, prog_14_method_123_code, 3, (some .int), 12, 1), (⟨"OneWayTownModel", "isThreeSo", "(III)Z"⟩, prog_14_method_121_code, 7, (some .boolean), 12, 0), (⟨"OneWayTownModel", "areDoorsSo", "(IIII)Z"⟩, prog_14_method_124_code, 5, (some .boolean), 12, 0), (⟨"OneWayTownModel", "mended", "(III)I"⟩, prog_14_method_127_code, 7, (some .int), 12, 0), (⟨"OneWayTownModel", "mendOf", "(III)I"⟩, prog_14_method_126_code, 7, (some .int), 12, 0), (⟨"OneWayTownModel", "image", "(I)I"⟩, prog_14_method_128_code, 3, (some .int), 12, 0), (⟨"OneWayTownModel", "back", "(I)I"⟩, prog_14_method_129_code, 3, (some .int), 12, 0), (⟨"OneWayTownModel", "about", "(I)I"⟩, prog_14_method_130_code, 2, (some .int), 12, 0), (⟨"OneWayTownModel", "feed", "(IIIII)I"⟩, prog_14_method_131_code, 8, (some .int), 12, 0), (⟨"OneWayTownModel", "end", "(I)I"⟩, prog_14_method_132_code, 2, (some .int), 12, 0), (⟨"java/lang/Integer", "bitCount", "(I)I"⟩, prog_15_method_49_code, 1, (some .int), 13, 1), (⟨"java/lang/Integer", "numberOfTrailingZeros", "(I)I"⟩, prog_15_method_48_code, 2, (some .int), 13, 1)]
def jm_ms : List (MethodName × ByteArray × Nat × Option FieldType × Nat × Nat) := jm_ms_1 ++ (jm_ms_2 ++ (jm_ms_3 ++ (jm_ms_4 ++ (jm_ms_5 ++ (jm_ms_6)))))
def jm_mp_1 : List (Nat × Nat × Nat) := [(350, 154, 349), (801, 154, 799), (805, 154, 804), (950, 154, 948), (1014, 154, 1012), (1022, 154, 1020), (526, 160, 525), (1339, 160, 1337), (1342, 160, 1341), (1350, 160, 1348), (1358, 160, 1356), (1367, 160, 1365), (1371, 160, 1370), (1375, 160, 1373), (1379, 160, 1378), (1384, 160, 1383), (1395, 160, 1393), (1399, 160, 1398), (1403, 160, 1402), (1411, 160, 1410), (307, 153, 306), (790, 153, 788), (797, 153, 795), (982, 153, 980), (1173, 153, 1171), (1177, 153, 1176), (1181, 153, 1180), (1186, 153, 1185), (1190, 153, 1189), (1194, 153, 1193), (1199, 153, 1197), (1203, 153, 1202), (1207, 153, 1205), (473, 158, 472), (1215, 158, 1213), (1219, 158, 1218), (1223, 158, 1222), (1229, 158, 1228), (1237, 158, 1235), (1241, 158, 1240), (1249, 158, 1247), (1253, 158, 1252), (1257, 158, 1256), (492, 159, 491), (986, 159, 984), (991, 159, 989), (995, 159, 994), (999, 159, 998), (1003, 159, 1002), (1006, 159, 1005), (1265, 159, 1263), (1270, 159, 1269), (1279, 159, 1277), (1283, 159, 1282), (1289, 159, 1288), (1293, 159, 1292), (1303, 159, 1302), (1312, 159, 1311), (1323, 159, 1322), (1327, 159, 1326)]
def jm_mp_2 : List (Nat × Nat × Nat) := [(215, 151, 214), (636, 151, 634), (731, 151, 730), (736, 151, 735), (740, 151, 739), (744, 151, 743), (747, 151, 746), (751, 151, 750), (755, 151, 754), (759, 151, 758), (763, 151, 762), (771, 151, 770), (775, 151, 774), (779, 151, 778), (430, 157, 429), (1042, 157, 1040), (1046, 157, 1044), (1050, 157, 1049), (1054, 157, 1053), (1058, 157, 1057), (1062, 157, 1061), (1073, 157, 1071), (1077, 157, 1076), (1081, 157, 1080), (1091, 157, 1089), (1099, 157, 1097), (1111, 157, 1109), (1116, 157, 1115), (1120, 157, 1119), (1128, 157, 1126), (1132, 157, 1131), (1136, 157, 1134), (1140, 157, 1138), (181, 150, 180), (624, 150, 622), (644, 150, 642), (648, 150, 646), (652, 150, 651), (656, 150, 655), (660, 150, 659), (665, 150, 664), (723, 150, 722), (727, 150, 726), (416, 156, 415), (1148, 156, 1146), (1152, 156, 1151), (1156, 156, 1155), (221, 152, 220), (640, 152, 638), (767, 152, 765), (783, 152, 781), (831, 152, 829), (835, 152, 833), (851, 152, 849), (911, 152, 909), (932, 152, 930), (967, 152, 965), (971, 152, 970), (1419, 152, 1417), (374, 155, 373)]
def jm_mp_3 : List (Nat × Nat × Nat) := [(814, 155, 812), (818, 155, 817), (843, 155, 841), (847, 155, 846), (859, 155, 857), (870, 155, 868), (874, 155, 872), (879, 155, 877), (887, 155, 885), (891, 155, 890), (895, 155, 894), (899, 155, 897), (903, 155, 902), (924, 155, 922), (928, 155, 927), (937, 155, 936), (1297, 155, 1295), (173, 149, 172), (620, 149, 618), (628, 149, 626), (632, 149, 630), (810, 149, 809), (823, 149, 821), (827, 149, 825), (839, 149, 837), (855, 149, 853), (866, 149, 864), (883, 149, 881), (907, 149, 905), (915, 149, 913), (920, 149, 918), (941, 149, 939), (946, 149, 945), (954, 149, 952), (959, 149, 957), (963, 149, 961), (978, 149, 976), (1010, 149, 1008), (1018, 149, 1016), (1026, 149, 1024), (1030, 149, 1028), (1034, 149, 1033), (1038, 149, 1036), (1069, 149, 1067), (1087, 149, 1085), (1095, 149, 1093), (1103, 149, 1102), (1107, 149, 1105), (1124, 149, 1122), (1144, 149, 1142), (1161, 149, 1159), (1165, 149, 1163), (1169, 149, 1167), (1211, 149, 1209), (1233, 149, 1231), (1245, 149, 1243), (1261, 149, 1259), (1275, 149, 1273), (1331, 149, 1329), (1335, 149, 1333)]
def jm_mp_4 : List (Nat × Nat × Nat) := [(1346, 149, 1344), (1354, 149, 1352), (1363, 149, 1361), (1391, 149, 1389), (1415, 149, 1413), (1424, 161, 1423), (1430, 161, 1429), (1434, 161, 1433), (1438, 161, 1437), (1442, 161, 1441), (1654, 161, 1652), (1658, 161, 1657), (1662, 161, 1661), (1665, 161, 1664), (1668, 161, 1667), (1678, 161, 1677), (1682, 161, 1681), (1686, 161, 1685), (1690, 161, 1689), (1694, 161, 1693), (1698, 161, 1697), (1702, 161, 1701), (1706, 161, 1705), (1710, 161, 1709), (1714, 161, 1713), (1718, 161, 1717), (1722, 161, 1721), (1726, 161, 1725), (1730, 161, 1729), (1734, 161, 1733), (1738, 161, 1737), (1742, 161, 1740), (1746, 161, 1744), (1750, 161, 1749), (1753, 161, 1752), (1757, 161, 1756), (1761, 161, 1760), (1765, 161, 1764), (1769, 161, 1768), (1773, 161, 1772), (1777, 161, 1775), (1781, 161, 1779), (1785, 161, 1784), (1789, 161, 1788), (1793, 161, 1792), (1797, 161, 1796), (1801, 161, 1799), (1805, 161, 1804), (1809, 161, 1807), (1813, 161, 1811), (1817, 161, 1816), (1821, 161, 1820), (1825, 161, 1824), (1829, 161, 1827), (1833, 161, 1832), (1837, 161, 1835), (1841, 161, 1839), (1845, 161, 1844), (1849, 161, 1848), (1853, 161, 1851)]
def jm_mp_5 : List (Nat × Nat × Nat) := [(1857, 161, 1856), (1861, 161, 1859), (1865, 161, 1863), (1869, 161, 1868), (1873, 161, 1871), (1877, 161, 1876), (1881, 161, 1879), (1885, 161, 1883), (1889, 161, 1888), (1893, 161, 1892), (1897, 161, 1896), (1900, 161, 1899), (1903, 161, 1902), (1907, 161, 1905), (1911, 161, 1910), (1915, 161, 1914), (1919, 161, 1917), (1923, 161, 1921), (1927, 161, 1926), (1931, 161, 1929), (1935, 161, 1934), (1939, 161, 1937), (1943, 161, 1942), (1947, 161, 1946), (1951, 161, 1949), (1955, 161, 1954), (1959, 161, 1958), (1963, 161, 1962), (1967, 161, 1965), (1971, 161, 1969), (1975, 161, 1973), (1979, 161, 1978), (1983, 161, 1982), (1987, 161, 1986), (1991, 161, 1990), (1995, 161, 1994), (1999, 161, 1997), (2003, 161, 2002), (2007, 161, 2006), (2011, 161, 2010), (2015, 161, 2014), (2019, 161, 2018), (2023, 161, 2022), (2028, 161, 2026), (2032, 161, 2030), (2036, 161, 2035), (2040, 161, 2038), (2044, 161, 2043), (2048, 161, 2046), (2053, 161, 2052), (2057, 161, 2056), (2061, 161, 2060), (2065, 161, 2063), (2069, 161, 2068), (2073, 161, 2072), (2077, 161, 2076), (2080, 161, 2079), (2084, 161, 2083), (2088, 161, 2086), (2092, 161, 2091)]
def jm_mp_6 : List (Nat × Nat × Nat) := [(2096, 161, 2094), (2100, 161, 2098), (2104, 161, 2102), (2109, 161, 2107), (2113, 161, 2112), (2117, 161, 2116), (2121, 161, 2120), (2124, 161, 2123), (2128, 161, 2127), (2132, 161, 2131), (2136, 161, 2134), (2140, 161, 2139), (2144, 161, 2142), (2148, 161, 2146), (2152, 161, 2150), (2156, 161, 2154), (2160, 161, 2158), (1306, 168, 1305), (1315, 168, 1314)]
def jm_mp : List (Nat × Nat × Nat) := jm_mp_1 ++ (jm_mp_2 ++ (jm_mp_3 ++ (jm_mp_4 ++ (jm_mp_5 ++ (jm_mp_6)))))
/-- a method's words: its code, its class ready, of which kind it is; its class is the one of its number; it's no method handle; its frame is small -/
def jm_mq (q : (MethodName × ByteArray × Nat × Option FieldType × Nat × Nat) × (Nat × Nat × Nat)) : Bool :=
  decide (lw_tbl[q.2.2.1]? = some (.initialized q.1.1.cls)) && decide (lw_tbl[q.2.2.2]? = some (if q.1.2.2.2.2.2 = 1 then .static q.1.1 else .instanceMethod q.1.1)) &&
  decide (q.1.1.cls = jm_cn q.1.2.2.2.2.1) && decide (q.1.1.cls ≠ "java/lang/invoke/MethodHandle") && decide (q.1.1.cls ≠ "java/lang/invoke/VarHandle") && decide (q.1.2.2.1 ≤ 40) && plainName q.1.1.cls
set_option maxRecDepth 100000 in
theorem jm_m_len : jm_ms.length = 319 ∧ jm_mp.length = 319 := by decide +kernel
set_option maxRecDepth 100000 in
theorem jm_m_all_1 : (((jm_ms.zip jm_mp).drop 0).take 60).all jm_mq = true := by decide +kernel
set_option maxRecDepth 100000 in
theorem jm_m_all_2 : (((jm_ms.zip jm_mp).drop 60).take 60).all jm_mq = true := by decide +kernel
set_option maxRecDepth 100000 in
theorem jm_m_all_3 : (((jm_ms.zip jm_mp).drop 120).take 60).all jm_mq = true := by decide +kernel
set_option maxRecDepth 100000 in
theorem jm_m_all_4 : (((jm_ms.zip jm_mp).drop 180).take 60).all jm_mq = true := by decide +kernel
set_option maxRecDepth 100000 in
theorem jm_m_all_5 : (((jm_ms.zip jm_mp).drop 240).take 60).all jm_mq = true := by decide +kernel
set_option maxRecDepth 100000 in
theorem jm_m_all_6 : (((jm_ms.zip jm_mp).drop 300).take 60).all jm_mq = true := by decide +kernel
set_option maxRecDepth 100000 in
theorem jm_mc0 : lw_tbl[350]? = some (.code ⟨"OneWayTown$Acts", "<init>", "()V"⟩ prog_2_method_1_code 2 none) := by rfl
set_option maxRecDepth 100000 in
theorem jm_mc1 : lw_tbl[801]? = some (.code ⟨"OneWayTown$Acts", "start", "(LOneWayTown$Town;)V"⟩ prog_2_method_2_code 2 none) := by rfl
set_option maxRecDepth 100000 in
theorem jm_mc2 : lw_tbl[805]? = some (.code ⟨"OneWayTown$Acts", "current", "()LOneWayTown$Town;"⟩ prog_2_method_6_code 1 (some (.object "OneWayTown$Town"))) := by rfl
set_option maxRecDepth 100000 in
theorem jm_mc3 : lw_tbl[950]? = some (.code ⟨"OneWayTown$Acts", "keep", "(LOneWayTown$Town;)V"⟩ prog_2_method_3_code 2 none) := by rfl
set_option maxRecDepth 100000 in
theorem jm_mc4 : lw_tbl[1014]? = some (.code ⟨"OneWayTown$Acts", "stepBack", "(LOneWayTown$Town;)Z"⟩ prog_2_method_4_code 2 (some .boolean)) := by rfl
set_option maxRecDepth 100000 in
theorem jm_mc5 : lw_tbl[1022]? = some (.code ⟨"OneWayTown$Acts", "stepOn", "(LOneWayTown$Town;)Z"⟩ prog_2_method_5_code 2 (some .boolean)) := by rfl
set_option maxRecDepth 100000 in
theorem jm_mc6 : lw_tbl[526]? = some (.code ⟨"OneWayTown$Doors", "<init>", "()V"⟩ prog_3_method_1_code 1 none) := by rfl
set_option maxRecDepth 100000 in
theorem jm_mc7 : lw_tbl[1339]? = some (.code ⟨"OneWayTown$Doors", "tell", "(III)I"⟩ prog_3_method_2_code 4 (some .int)) := by rfl
set_option maxRecDepth 100000 in
theorem jm_mc8 : lw_tbl[1342]? = some (.code ⟨"OneWayTown$Doors", "isDoor", "(I)Z"⟩ prog_3_method_3_code 1 (some .boolean)) := by rfl
set_option maxRecDepth 100000 in
theorem jm_mc9 : lw_tbl[1350]? = some (.code ⟨"OneWayTown$Doors", "takeBack", "(I)Z"⟩ prog_3_method_4_code 2 (some .boolean)) := by rfl
set_option maxRecDepth 100000 in
theorem jm_mc10 : lw_tbl[1358]? = some (.code ⟨"OneWayTown$Doors", "passTime", "(I)I"⟩ prog_3_method_5_code 2 (some .int)) := by rfl
set_option maxRecDepth 100000 in
theorem jm_mc11 : lw_tbl[1367]? = some (.code ⟨"OneWayTown$Doors", "learn", "(II)Z"⟩ prog_3_method_6_code 5 (some .boolean)) := by rfl
set_option maxRecDepth 100000 in
theorem jm_mc12 : lw_tbl[1371]? = some (.code ⟨"OneWayTown$Doors", "isWhole", "(I)Z"⟩ prog_3_method_7_code 4 (some .boolean)) := by rfl
set_option maxRecDepth 100000 in
theorem jm_mc13 : lw_tbl[1375]? = some (.code ⟨"OneWayTown$Doors", "firstWrong", "(I)I"⟩ prog_3_method_8_code 3 (some .int)) := by rfl
set_option maxRecDepth 100000 in
theorem jm_mc14 : lw_tbl[1379]? = some (.code ⟨"OneWayTown$Doors", "firstWrongWithout", "(III)I"⟩ prog_3_method_9_code 6 (some .int)) := by rfl
set_option maxRecDepth 100000 in
theorem jm_mc15 : lw_tbl[1384]? = some (.code ⟨"OneWayTown$Doors", "isThreeRight", "(I)Z"⟩ prog_3_method_10_code 8 (some .boolean)) := by rfl
set_option maxRecDepth 100000 in
theorem jm_mc16 : lw_tbl[1395]? = some (.code ⟨"OneWayTown$Doors", "mend", "(I)Z"⟩ prog_3_method_11_code 4 (some .boolean)) := by rfl
set_option maxRecDepth 100000 in
theorem jm_mc17 : lw_tbl[1399]? = some (.code ⟨"OneWayTown$Doors", "canMend", "(III)Z"⟩ prog_3_method_12_code 7 (some .boolean)) := by rfl
set_option maxRecDepth 100000 in
theorem jm_mc18 : lw_tbl[1403]? = some (.code ⟨"OneWayTown$Doors", "boundByThird", "(III)V"⟩ prog_3_method_13_code 4 none) := by rfl
set_option maxRecDepth 100000 in
theorem jm_mc19 : lw_tbl[1411]? = some (.code ⟨"OneWayTown$Doors", "boundByTwo", "(IIII)V"⟩ prog_3_method_14_code 8 none) := by rfl
set_option maxRecDepth 100000 in
theorem jm_mc20 : lw_tbl[307]? = some (.code ⟨"OneWayTown$Fleet", "<init>", "(LOneWayTown$Town;)V"⟩ prog_4_method_1_code 2 none) := by rfl
set_option maxRecDepth 100000 in
theorem jm_mc21 : lw_tbl[790]? = some (.code ⟨"OneWayTown$Fleet", "set", "(I[I[I)V"⟩ prog_4_method_2_code 5 none) := by rfl
set_option maxRecDepth 100000 in
theorem jm_mc22 : lw_tbl[797]? = some (.code ⟨"OneWayTown$Fleet", "forget", "()V"⟩ prog_4_method_3_code 1 none) := by rfl
set_option maxRecDepth 100000 in
theorem jm_mc23 : lw_tbl[982]? = some (.code ⟨"OneWayTown$Fleet", "needsHouse", "(I)Z"⟩ prog_4_method_4_code 3 (some .boolean)) := by rfl
set_option maxRecDepth 100000 in
theorem jm_mc24 : lw_tbl[1173]? = some (.code ⟨"OneWayTown$Fleet", "solve", "()I"⟩ prog_4_method_5_code 1 (some .int)) := by rfl
set_option maxRecDepth 100000 in
theorem jm_mc25 : lw_tbl[1177]? = some (.code ⟨"OneWayTown$Fleet", "search", "()V"⟩ prog_4_method_9_code 4 none) := by rfl
set_option maxRecDepth 100000 in
theorem jm_mc26 : lw_tbl[1181]? = some (.code ⟨"OneWayTown$Fleet", "listNeighbours", "()V"⟩ prog_4_method_10_code 3 none) := by rfl
set_option maxRecDepth 100000 in
theorem jm_mc27 : lw_tbl[1186]? = some (.code ⟨"OneWayTown$Fleet", "pack", "([I)I"⟩ prog_4_method_11_code 4 (some .int)) := by rfl
set_option maxRecDepth 100000 in
theorem jm_mc28 : lw_tbl[1190]? = some (.code ⟨"OneWayTown$Fleet", "comeTo", "(III)V"⟩ prog_4_method_13_code 5 none) := by rfl
set_option maxRecDepth 100000 in
theorem jm_mc29 : lw_tbl[1194]? = some (.code ⟨"OneWayTown$Fleet", "goOn", "(II)V"⟩ prog_4_method_12_code 11 none) := by rfl
set_option maxRecDepth 100000 in
theorem jm_mc30 : lw_tbl[1199]? = some (.code ⟨"OneWayTown$Fleet", "firstCart", "()I"⟩ prog_4_method_6_code 1 (some .int)) := by rfl
set_option maxRecDepth 100000 in
theorem jm_mc31 : lw_tbl[1203]? = some (.code ⟨"OneWayTown$Fleet", "firstStep", "()I"⟩ prog_4_method_8_code 1 (some .int)) := by rfl
set_option maxRecDepth 100000 in
theorem jm_mc32 : lw_tbl[1207]? = some (.code ⟨"OneWayTown$Fleet", "firstHouse", "()I"⟩ prog_4_method_7_code 1 (some .int)) := by rfl
set_option maxRecDepth 100000 in
theorem jm_mc33 : lw_tbl[473]? = some (.code ⟨"OneWayTown$Likeness", "<init>", "(LOneWayTown$Town;)V"⟩ prog_5_method_1_code 2 none) := by rfl
set_option maxRecDepth 100000 in
theorem jm_mc34 : lw_tbl[1215]? = some (.code ⟨"OneWayTown$Likeness", "isLike", "(LOneWayTown$Town;LOneWayTown$Town;Z)Z"⟩ prog_5_method_2_code 4 (some .boolean)) := by rfl
set_option maxRecDepth 100000 in
theorem jm_mc35 : lw_tbl[1219]? = some (.code ⟨"OneWayTown$Likeness", "countLikeRoots", "()I"⟩ prog_5_method_4_code 3 (some .int)) := by rfl
set_option maxRecDepth 100000 in
theorem jm_mc36 : lw_tbl[1223]? = some (.code ⟨"OneWayTown$Likeness", "isBranchLike", "(IIIII)Z"⟩ prog_5_method_7_code 11 (some .boolean)) := by rfl
set_option maxRecDepth 100000 in
theorem jm_mc37 : lw_tbl[1229]? = some (.code ⟨"OneWayTown$Likeness", "isStreetLike", "(II)Z"⟩ prog_5_method_6_code 3 (some .boolean)) := by rfl
set_option maxRecDepth 100000 in
theorem jm_mc38 : lw_tbl[1237]? = some (.code ⟨"OneWayTown$Likeness", "countSelves", "(LOneWayTown$Town;Z)J"⟩ prog_5_method_3_code 6 (some .long)) := by rfl
set_option maxRecDepth 100000 in
theorem jm_mc39 : lw_tbl[1241]? = some (.code ⟨"OneWayTown$Likeness", "countLikeAhead", "(I)I"⟩ prog_5_method_5_code 5 (some .int)) := by rfl
set_option maxRecDepth 100000 in
theorem jm_mc40 : lw_tbl[1249]? = some (.code ⟨"OneWayTown$Likeness", "countUnlike", "(I)I"⟩ prog_5_method_8_code 4 (some .int)) := by rfl
set_option maxRecDepth 100000 in
theorem jm_mc41 : lw_tbl[1253]? = some (.code ⟨"OneWayTown$Likeness", "countRooted", "(I)V"⟩ prog_5_method_9_code 5 none) := by rfl
set_option maxRecDepth 100000 in
theorem jm_mc42 : lw_tbl[1257]? = some (.code ⟨"OneWayTown$Likeness", "sumOfDivisors", "(I)I"⟩ prog_5_method_10_code 4 (some .int)) := by rfl
set_option maxRecDepth 100000 in
theorem jm_mc43 : lw_tbl[492]? = some (.code ⟨"OneWayTown$Marks", "<init>", "()V"⟩ prog_6_method_1_code 1 none) := by rfl
set_option maxRecDepth 100000 in
theorem jm_mc44 : lw_tbl[986]? = some (.code ⟨"OneWayTown$Marks", "take", "(IJ)Z"⟩ prog_6_method_5_code 5 (some .boolean)) := by rfl
set_option maxRecDepth 100000 in
theorem jm_mc45 : lw_tbl[991]? = some (.code ⟨"OneWayTown$Marks", "plant", "(ILOneWayTown$Town;)V"⟩ prog_6_method_6_code 4 none) := by rfl
set_option maxRecDepth 100000 in
theorem jm_mc46 : lw_tbl[995]? = some (.code ⟨"OneWayTown$Marks", "linkFirstEnd", "(II)V"⟩ prog_6_method_7_code 4 none) := by rfl
set_option maxRecDepth 100000 in
theorem jm_mc47 : lw_tbl[999]? = some (.code ⟨"OneWayTown$Marks", "firstEnd", "(I)I"⟩ prog_6_method_3_code 3 (some .int)) := by rfl
set_option maxRecDepth 100000 in
theorem jm_mc48 : lw_tbl[1003]? = some (.code ⟨"OneWayTown$Marks", "hangAll", "(ILOneWayTown$Town;)V"⟩ prog_6_method_8_code 6 none) := by rfl
set_option maxRecDepth 100000 in
theorem jm_mc49 : lw_tbl[1006]? = some (.code ⟨"OneWayTown$Marks", "hangNext", "(LOneWayTown$Town;II)I"⟩ prog_6_method_9_code 4 (some .int)) := by rfl
set_option maxRecDepth 100000 in
theorem jm_mc50 : lw_tbl[1265]? = some (.code ⟨"OneWayTown$Marks", "tell", "(LOneWayTown$Town;[I)I"⟩ prog_6_method_2_code 7 (some .int)) := by rfl
set_option maxRecDepth 100000 in
theorem jm_mc51 : lw_tbl[1270]? = some (.code ⟨"OneWayTown$Marks", "lastNeighbour", "(LOneWayTown$Town;I)I"⟩ prog_6_method_4_code 4 (some .int)) := by rfl
set_option maxRecDepth 100000 in
theorem jm_mc52 : lw_tbl[1279]? = some (.code ⟨"OneWayTown$Marks", "tryLaw", "(II)I"⟩ prog_6_method_10_code 4 (some .int)) := by rfl
set_option maxRecDepth 100000 in
theorem jm_mc53 : lw_tbl[1283]? = some (.code ⟨"OneWayTown$Marks", "countBroken", "(II)I"⟩ prog_6_method_11_code 8 (some .int)) := by rfl
set_option maxRecDepth 100000 in
theorem jm_mc54 : lw_tbl[1289]? = some (.code ⟨"OneWayTown$Marks", "holds", "(I)Z"⟩ prog_6_method_12_code 2 (some .boolean)) := by rfl
set_option maxRecDepth 100000 in
theorem jm_mc55 : lw_tbl[1293]? = some (.code ⟨"OneWayTown$Marks", "isMiddleOneOrTwo", "()Z"⟩ prog_6_method_13_code 6 (some .boolean)) := by rfl
set_option maxRecDepth 100000 in
theorem jm_mc56 : lw_tbl[1303]? = some (.code ⟨"OneWayTown$Marks", "areAllFoursLike", "()Z"⟩ prog_6_method_14_code 2 (some .boolean)) := by rfl
set_option maxRecDepth 100000 in
theorem jm_mc57 : lw_tbl[1312]? = some (.code ⟨"OneWayTown$Marks", "isFourLike", "([[II)Z"⟩ prog_6_method_15_code 12 (some .boolean)) := by rfl
set_option maxRecDepth 100000 in
theorem jm_mc58 : lw_tbl[1323]? = some (.code ⟨"OneWayTown$Marks", "wardensByEnds", "()I"⟩ prog_6_method_16_code 6 (some .int)) := by rfl
set_option maxRecDepth 100000 in
theorem jm_mc59 : lw_tbl[1327]? = some (.code ⟨"OneWayTown$Marks", "farthestOf", "(I)I"⟩ prog_6_method_17_code 5 (some .int)) := by rfl
theorem jm_mc_1 : ∀ q ∈ jm_ms_1, Cond.code q.1 q.2.1 q.2.2.1 q.2.2.2.1 ∈ lw_tbl := List.forall_mem_cons.mpr ⟨List.mem_of_getElem? jm_mc0, List.forall_mem_cons.mpr ⟨List.mem_of_getElem? jm_mc1, List.forall_mem_cons.mpr ⟨List.mem_of_getElem? jm_mc2, List.forall_mem_cons.mpr ⟨List.mem_of_getElem? jm_mc3, List.forall_mem_cons.mpr ⟨List.mem_of_getElem? jm_mc4, List.forall_mem_cons.mpr ⟨List.mem_of_getElem? jm_mc5, List.forall_mem_cons.mpr ⟨List.mem_of_getElem? jm_mc6, List.forall_mem_cons.mpr ⟨List.mem_of_getElem? jm_mc7, List.forall_mem_cons.mpr ⟨List.mem_of_getElem? jm_mc8, List.forall_mem_cons.mpr ⟨List.mem_of_getElem? jm_mc9, List.forall_mem_cons.mpr ⟨List.mem_of_getElem? jm_mc10, List.forall_mem_cons.mpr ⟨List.mem_of_getElem? jm_mc11, List.forall_mem_cons.mpr ⟨List.mem_of_getElem? jm_mc12, List.forall_mem_cons.mpr ⟨List.mem_of_getElem? jm_mc13, List.forall_mem_cons.mpr ⟨List.mem_of_getElem? jm_mc14, List.forall_mem_cons.mpr ⟨List.mem_of_getElem? jm_mc15, List.forall_mem_cons.mpr ⟨List.mem_of_getElem? jm_mc16, List.forall_mem_cons.mpr ⟨List.mem_of_getElem? jm_mc17, List.forall_mem_cons.mpr ⟨List.mem_of_getElem? jm_mc18, List.forall_mem_cons.mpr ⟨List.mem_of_getElem? jm_mc19, List.forall_mem_cons.mpr ⟨List.mem_of_getElem? jm_mc20, List.forall_mem_cons.mpr ⟨List.mem_of_getElem? jm_mc21, List.forall_mem_cons.mpr ⟨List.mem_of_getElem? jm_mc22, List.forall_mem_cons.mpr ⟨List.mem_of_getElem? jm_mc23, List.forall_mem_cons.mpr ⟨List.mem_of_getElem? jm_mc24, List.forall_mem_cons.mpr ⟨List.mem_of_getElem? jm_mc25, List.forall_mem_cons.mpr ⟨List.mem_of_getElem? jm_mc26, List.forall_mem_cons.mpr ⟨List.mem_of_getElem? jm_mc27, List.forall_mem_cons.mpr ⟨List.mem_of_getElem? jm_mc28, List.forall_mem_cons.mpr ⟨List.mem_of_getElem? jm_mc29, List.forall_mem_cons.mpr ⟨List.mem_of_getElem? jm_mc30, List.forall_mem_cons.mpr ⟨List.mem_of_getElem? jm_mc31, List.forall_mem_cons.mpr ⟨List.mem_of_getElem? jm_mc32, List.forall_mem_cons.mpr ⟨List.mem_of_getElem? jm_mc33, List.forall_mem_cons.mpr ⟨List.mem_of_getElem? jm_mc34, List.forall_mem_cons.mpr ⟨List.mem_of_getElem? jm_mc35, List.forall_mem_cons.mpr ⟨List.mem_of_getElem? jm_mc36, List.forall_mem_cons.mpr ⟨List.mem_of_getElem? jm_mc37, List.forall_mem_cons.mpr ⟨List.mem_of_getElem? jm_mc38, List.forall_mem_cons.mpr ⟨List.mem_of_getElem? jm_mc39, List.forall_mem_cons.mpr ⟨List.mem_of_getElem? jm_mc40, List.forall_mem_cons.mpr ⟨List.mem_of_getElem? jm_mc41, List.forall_mem_cons.mpr ⟨List.mem_of_getElem? jm_mc42, List.forall_mem_cons.mpr ⟨List.mem_of_getElem? jm_mc43, List.forall_mem_cons.mpr ⟨List.mem_of_getElem? jm_mc44, List.forall_mem_cons.mpr ⟨List.mem_of_getElem? jm_mc45, List.forall_mem_cons.mpr ⟨List.mem_of_getElem? jm_mc46, List.forall_mem_cons.mpr ⟨List.mem_of_getElem? jm_mc47, List.forall_mem_cons.mpr ⟨List.mem_of_getElem? jm_mc48, List.forall_mem_cons.mpr ⟨List.mem_of_getElem? jm_mc49, List.forall_mem_cons.mpr ⟨List.mem_of_getElem? jm_mc50, List.forall_mem_cons.mpr ⟨List.mem_of_getElem? jm_mc51, List.forall_mem_cons.mpr ⟨List.mem_of_getElem? jm_mc52, List.forall_mem_cons.mpr ⟨List.mem_of_getElem? jm_mc53, List.forall_mem_cons.mpr ⟨List.mem_of_getElem? jm_mc54, List.forall_mem_cons.mpr ⟨List.mem_of_getElem? jm_mc55, List.forall_mem_cons.mpr ⟨List.mem_of_getElem? jm_mc56, List.forall_mem_cons.mpr ⟨List.mem_of_getElem? jm_mc57, List.forall_mem_cons.mpr ⟨List.mem_of_getElem? jm_mc58, List.forall_mem_cons.mpr ⟨List.mem_of_getElem? jm_mc59, fun _ h => absurd h List.not_mem_nil⟩⟩⟩⟩⟩⟩⟩⟩⟩⟩⟩⟩⟩⟩⟩⟩⟩⟩⟩⟩⟩⟩⟩⟩⟩⟩⟩⟩⟩⟩⟩⟩⟩⟩⟩⟩⟩⟩⟩⟩⟩⟩⟩⟩⟩⟩⟩⟩⟩⟩⟩⟩⟩⟩⟩⟩⟩⟩⟩⟩
set_option maxRecDepth 100000 in
theorem jm_mc60 : lw_tbl[215]? = some (.code ⟨"OneWayTown$Reader", "<init>", "(LOneWayTown$Tape;)V"⟩ prog_7_method_1_code 2 none) := by rfl
set_option maxRecDepth 100000 in
theorem jm_mc61 : lw_tbl[636]? = some (.code ⟨"OneWayTown$Reader", "read", "()Z"⟩ prog_7_method_2_code 3 (some .boolean)) := by rfl
set_option maxRecDepth 100000 in
theorem jm_mc62 : lw_tbl[731]? = some (.code ⟨"OneWayTown$Reader", "readHouse", "()Z"⟩ prog_7_method_3_code 6 (some .boolean)) := by rfl
set_option maxRecDepth 100000 in
theorem jm_mc63 : lw_tbl[736]? = some (.code ⟨"OneWayTown$Reader", "isNewName", "([JI)Z"⟩ prog_7_method_6_code 3 (some .boolean)) := by rfl
set_option maxRecDepth 100000 in
theorem jm_mc64 : lw_tbl[740]? = some (.code ⟨"OneWayTown$Reader", "misplaced", "()Z"⟩ prog_7_method_13_code 1 (some .boolean)) := by rfl
set_option maxRecDepth 100000 in
theorem jm_mc65 : lw_tbl[744]? = some (.code ⟨"OneWayTown$Reader", "blame", "(I)Z"⟩ prog_7_method_14_code 2 (some .boolean)) := by rfl
set_option maxRecDepth 100000 in
theorem jm_mc66 : lw_tbl[747]? = some (.code ⟨"OneWayTown$Reader", "find", "(J[JI)I"⟩ prog_7_method_12_code 5 (some .int)) := by rfl
set_option maxRecDepth 100000 in
theorem jm_mc67 : lw_tbl[751]? = some (.code ⟨"OneWayTown$Reader", "takeToken", "(I)Z"⟩ prog_7_method_7_code 2 (some .boolean)) := by rfl
set_option maxRecDepth 100000 in
theorem jm_mc68 : lw_tbl[755]? = some (.code ⟨"OneWayTown$Reader", "takeHouse", "()I"⟩ prog_7_method_9_code 2 (some .int)) := by rfl
set_option maxRecDepth 100000 in
theorem jm_mc69 : lw_tbl[759]? = some (.code ⟨"OneWayTown$Reader", "knownHouse", "()I"⟩ prog_7_method_11_code 2 (some .int)) := by rfl
set_option maxRecDepth 100000 in
theorem jm_mc70 : lw_tbl[763]? = some (.code ⟨"OneWayTown$Reader", "takeNumber", "(II)I"⟩ prog_7_method_8_code 4 (some .int)) := by rfl
set_option maxRecDepth 100000 in
theorem jm_mc71 : lw_tbl[771]? = some (.code ⟨"OneWayTown$Reader", "readCart", "()Z"⟩ prog_7_method_4_code 5 (some .boolean)) := by rfl
set_option maxRecDepth 100000 in
theorem jm_mc72 : lw_tbl[775]? = some (.code ⟨"OneWayTown$Reader", "takeFreeHouse", "([II)I"⟩ prog_7_method_10_code 6 (some .int)) := by rfl
set_option maxRecDepth 100000 in
theorem jm_mc73 : lw_tbl[779]? = some (.code ⟨"OneWayTown$Reader", "readDraw", "()Z"⟩ prog_7_method_5_code 2 (some .boolean)) := by rfl
set_option maxRecDepth 100000 in
theorem jm_mc74 : lw_tbl[430]? = some (.code ⟨"OneWayTown$Sets", "<init>", "(LOneWayTown$Town;LOneWayTown$Ways;)V"⟩ prog_8_method_1_code 3 none) := by rfl
set_option maxRecDepth 100000 in
theorem jm_mc75 : lw_tbl[1042]? = some (.code ⟨"OneWayTown$Sets", "wardenMask", "(I)I"⟩ prog_8_method_2_code 5 (some .int)) := by rfl
set_option maxRecDepth 100000 in
theorem jm_mc76 : lw_tbl[1046]? = some (.code ⟨"OneWayTown$Sets", "leastWardens", "(I)I"⟩ prog_8_method_3_code 2 (some .int)) := by rfl
set_option maxRecDepth 100000 in
theorem jm_mc77 : lw_tbl[1050]? = some (.code ⟨"OneWayTown$Sets", "freeAll", "()V"⟩ prog_8_method_5_code 2 none) := by rfl
set_option maxRecDepth 100000 in
theorem jm_mc78 : lw_tbl[1054]? = some (.code ⟨"OneWayTown$Sets", "wardensWithChoices", "(I)I"⟩ prog_8_method_6_code 5 (some .int)) := by rfl
set_option maxRecDepth 100000 in
theorem jm_mc79 : lw_tbl[1058]? = some (.code ⟨"OneWayTown$Sets", "price", "(I)I"⟩ prog_8_method_7_code 2 (some .int)) := by rfl
set_option maxRecDepth 100000 in
theorem jm_mc80 : lw_tbl[1062]? = some (.code ⟨"OneWayTown$Sets", "serve", "(II)V"⟩ prog_8_method_8_code 6 none) := by rfl
set_option maxRecDepth 100000 in
theorem jm_mc81 : lw_tbl[1073]? = some (.code ⟨"OneWayTown$Sets", "quietMask", "()I"⟩ prog_8_method_9_code 2 (some .int)) := by rfl
set_option maxRecDepth 100000 in
theorem jm_mc82 : lw_tbl[1077]? = some (.code ⟨"OneWayTown$Sets", "apartMask", "(II)I"⟩ prog_8_method_11_code 6 (some .int)) := by rfl
set_option maxRecDepth 100000 in
theorem jm_mc83 : lw_tbl[1081]? = some (.code ⟨"OneWayTown$Sets", "heaviestApart", "()I"⟩ prog_8_method_12_code 4 (some .int)) := by rfl
set_option maxRecDepth 100000 in
theorem jm_mc84 : lw_tbl[1091]? = some (.code ⟨"OneWayTown$Sets", "guardMask", "()I"⟩ prog_8_method_10_code 2 (some .int)) := by rfl
set_option maxRecDepth 100000 in
theorem jm_mc85 : lw_tbl[1099]? = some (.code ⟨"OneWayTown$Sets", "leastReach", "(I)I"⟩ prog_8_method_4_code 6 (some .int)) := by rfl
set_option maxRecDepth 100000 in
theorem jm_mc86 : lw_tbl[1111]? = some (.code ⟨"OneWayTown$Sets", "openShops", "(I)V"⟩ prog_8_method_17_code 3 none) := by rfl
set_option maxRecDepth 100000 in
theorem jm_mc87 : lw_tbl[1116]? = some (.code ⟨"OneWayTown$Sets", "openMore", "(IIII)V"⟩ prog_8_method_18_code 8 none) := by rfl
set_option maxRecDepth 100000 in
theorem jm_mc88 : lw_tbl[1120]? = some (.code ⟨"OneWayTown$Sets", "sumWith", "(II)I"⟩ prog_8_method_19_code 7 (some .int)) := by rfl
set_option maxRecDepth 100000 in
theorem jm_mc89 : lw_tbl[1128]? = some (.code ⟨"OneWayTown$Sets", "countApart", "()I"⟩ prog_8_method_13_code 4 (some .int)) := by rfl
set_option maxRecDepth 100000 in
theorem jm_mc90 : lw_tbl[1132]? = some (.code ⟨"OneWayTown$Sets", "startCount", "(I)V"⟩ prog_8_method_16_code 3 none) := by rfl
set_option maxRecDepth 100000 in
theorem jm_mc91 : lw_tbl[1136]? = some (.code ⟨"OneWayTown$Sets", "countTogether", "()I"⟩ prog_8_method_14_code 4 (some .int)) := by rfl
set_option maxRecDepth 100000 in
theorem jm_mc92 : lw_tbl[1140]? = some (.code ⟨"OneWayTown$Sets", "countStreetSets", "()I"⟩ prog_8_method_15_code 5 (some .int)) := by rfl
set_option maxRecDepth 100000 in
theorem jm_mc93 : lw_tbl[181]? = some (.code ⟨"OneWayTown$Tape", "<init>", "()V"⟩ prog_9_method_1_code 1 none) := by rfl
set_option maxRecDepth 100000 in
theorem jm_mc94 : lw_tbl[624]? = some (.code ⟨"OneWayTown$Tape", "add", "(I)V"⟩ prog_9_method_2_code 3 none) := by rfl
set_option maxRecDepth 100000 in
theorem jm_mc95 : lw_tbl[644]? = some (.code ⟨"OneWayTown$Tape", "restart", "()V"⟩ prog_9_method_3_code 1 none) := by rfl
set_option maxRecDepth 100000 in
theorem jm_mc96 : lw_tbl[648]? = some (.code ⟨"OneWayTown$Tape", "step", "()V"⟩ prog_9_method_4_code 1 none) := by rfl
set_option maxRecDepth 100000 in
theorem jm_mc97 : lw_tbl[652]? = some (.code ⟨"OneWayTown$Tape", "isLetter", "(I)Z"⟩ prog_9_method_5_code 2 (some .boolean)) := by rfl
set_option maxRecDepth 100000 in
theorem jm_mc98 : lw_tbl[656]? = some (.code ⟨"OneWayTown$Tape", "readWord", "()V"⟩ prog_9_method_7_code 1 none) := by rfl
set_option maxRecDepth 100000 in
theorem jm_mc99 : lw_tbl[660]? = some (.code ⟨"OneWayTown$Tape", "kindOfWord", "()I"⟩ prog_9_method_9_code 1 (some .int)) := by rfl
set_option maxRecDepth 100000 in
theorem jm_mc100 : lw_tbl[665]? = some (.code ⟨"OneWayTown$Tape", "spells", "(Ljava/lang/String;)Z"⟩ prog_9_method_10_code 3 (some .boolean)) := by rfl
set_option maxRecDepth 100000 in
theorem jm_mc101 : lw_tbl[723]? = some (.code ⟨"OneWayTown$Tape", "isDigit", "(I)Z"⟩ prog_9_method_6_code 2 (some .boolean)) := by rfl
set_option maxRecDepth 100000 in
theorem jm_mc102 : lw_tbl[727]? = some (.code ⟨"OneWayTown$Tape", "readNumber", "()V"⟩ prog_9_method_8_code 2 none) := by rfl
set_option maxRecDepth 100000 in
theorem jm_mc103 : lw_tbl[416]? = some (.code ⟨"OneWayTown$Telling", "<init>", "(LOneWayTown$Town;)V"⟩ prog_10_method_1_code 2 none) := by rfl
set_option maxRecDepth 100000 in
theorem jm_mc104 : lw_tbl[1148]? = some (.code ⟨"OneWayTown$Telling", "hoursFrom", "(IZ)I"⟩ prog_10_method_2_code 3 (some .int)) := by rfl
set_option maxRecDepth 100000 in
theorem jm_mc105 : lw_tbl[1152]? = some (.code ⟨"OneWayTown$Telling", "hoursBehind", "(IIZI)I"⟩ prog_10_method_3_code 10 (some .int)) := by rfl
set_option maxRecDepth 100000 in
theorem jm_mc106 : lw_tbl[1156]? = some (.code ⟨"OneWayTown$Telling", "insert", "([III)V"⟩ prog_10_method_4_code 4 none) := by rfl
set_option maxRecDepth 100000 in
theorem jm_mc107 : lw_tbl[221]? = some (.code ⟨"OneWayTown$Town", "<init>", "()V"⟩ prog_11_method_1_code 1 none) := by rfl
set_option maxRecDepth 100000 in
theorem jm_mc108 : lw_tbl[640]? = some (.code ⟨"OneWayTown$Town", "clear", "()V"⟩ prog_11_method_2_code 1 none) := by rfl
set_option maxRecDepth 100000 in
theorem jm_mc109 : lw_tbl[767]? = some (.code ⟨"OneWayTown$Town", "add", "(III)I"⟩ prog_11_method_5_code 4 (some .int)) := by rfl
set_option maxRecDepth 100000 in
theorem jm_mc110 : lw_tbl[783]? = some (.code ⟨"OneWayTown$Town", "copy", "(LOneWayTown$Town;)V"⟩ prog_11_method_3_code 2 none) := by rfl
set_option maxRecDepth 100000 in
theorem jm_mc111 : lw_tbl[831]? = some (.code ⟨"OneWayTown$Town", "has", "(I)Z"⟩ prog_11_method_4_code 2 (some .boolean)) := by rfl
set_option maxRecDepth 100000 in
theorem jm_mc112 : lw_tbl[835]? = some (.code ⟨"OneWayTown$Town", "streetsAt", "(I)I"⟩ prog_11_method_7_code 4 (some .int)) := by rfl
set_option maxRecDepth 100000 in
theorem jm_mc113 : lw_tbl[851]? = some (.code ⟨"OneWayTown$Town", "streetBetween", "(II)I"⟩ prog_11_method_6_code 3 (some .int)) := by rfl
set_option maxRecDepth 100000 in
theorem jm_mc114 : lw_tbl[911]? = some (.code ⟨"OneWayTown$Town", "lengthTogether", "()I"⟩ prog_11_method_10_code 3 (some .int)) := by rfl
set_option maxRecDepth 100000 in
theorem jm_mc115 : lw_tbl[932]? = some (.code ⟨"OneWayTown$Town", "isWithin", "(II)Z"⟩ prog_11_method_8_code 5 (some .boolean)) := by rfl
set_option maxRecDepth 100000 in
theorem jm_mc116 : lw_tbl[967]? = some (.code ⟨"OneWayTown$Town", "passYear", "()V"⟩ prog_11_method_11_code 2 none) := by rfl
set_option maxRecDepth 100000 in
theorem jm_mc117 : lw_tbl[971]? = some (.code ⟨"OneWayTown$Town", "burn", "()V"⟩ prog_11_method_12_code 2 none) := by rfl
set_option maxRecDepth 100000 in
theorem jm_mc118 : lw_tbl[1419]? = some (.code ⟨"OneWayTown$Town", "peopleTogether", "()I"⟩ prog_11_method_9_code 3 (some .int)) := by rfl
set_option maxRecDepth 100000 in
theorem jm_mc119 : lw_tbl[374]? = some (.code ⟨"OneWayTown$Ways", "<init>", "(LOneWayTown$Town;)V"⟩ prog_12_method_1_code 2 none) := by rfl
theorem jm_mc_2 : ∀ q ∈ jm_ms_2, Cond.code q.1 q.2.1 q.2.2.1 q.2.2.2.1 ∈ lw_tbl := List.forall_mem_cons.mpr ⟨List.mem_of_getElem? jm_mc60, List.forall_mem_cons.mpr ⟨List.mem_of_getElem? jm_mc61, List.forall_mem_cons.mpr ⟨List.mem_of_getElem? jm_mc62, List.forall_mem_cons.mpr ⟨List.mem_of_getElem? jm_mc63, List.forall_mem_cons.mpr ⟨List.mem_of_getElem? jm_mc64, List.forall_mem_cons.mpr ⟨List.mem_of_getElem? jm_mc65, List.forall_mem_cons.mpr ⟨List.mem_of_getElem? jm_mc66, List.forall_mem_cons.mpr ⟨List.mem_of_getElem? jm_mc67, List.forall_mem_cons.mpr ⟨List.mem_of_getElem? jm_mc68, List.forall_mem_cons.mpr ⟨List.mem_of_getElem? jm_mc69, List.forall_mem_cons.mpr ⟨List.mem_of_getElem? jm_mc70, List.forall_mem_cons.mpr ⟨List.mem_of_getElem? jm_mc71, List.forall_mem_cons.mpr ⟨List.mem_of_getElem? jm_mc72, List.forall_mem_cons.mpr ⟨List.mem_of_getElem? jm_mc73, List.forall_mem_cons.mpr ⟨List.mem_of_getElem? jm_mc74, List.forall_mem_cons.mpr ⟨List.mem_of_getElem? jm_mc75, List.forall_mem_cons.mpr ⟨List.mem_of_getElem? jm_mc76, List.forall_mem_cons.mpr ⟨List.mem_of_getElem? jm_mc77, List.forall_mem_cons.mpr ⟨List.mem_of_getElem? jm_mc78, List.forall_mem_cons.mpr ⟨List.mem_of_getElem? jm_mc79, List.forall_mem_cons.mpr ⟨List.mem_of_getElem? jm_mc80, List.forall_mem_cons.mpr ⟨List.mem_of_getElem? jm_mc81, List.forall_mem_cons.mpr ⟨List.mem_of_getElem? jm_mc82, List.forall_mem_cons.mpr ⟨List.mem_of_getElem? jm_mc83, List.forall_mem_cons.mpr ⟨List.mem_of_getElem? jm_mc84, List.forall_mem_cons.mpr ⟨List.mem_of_getElem? jm_mc85, List.forall_mem_cons.mpr ⟨List.mem_of_getElem? jm_mc86, List.forall_mem_cons.mpr ⟨List.mem_of_getElem? jm_mc87, List.forall_mem_cons.mpr ⟨List.mem_of_getElem? jm_mc88, List.forall_mem_cons.mpr ⟨List.mem_of_getElem? jm_mc89, List.forall_mem_cons.mpr ⟨List.mem_of_getElem? jm_mc90, List.forall_mem_cons.mpr ⟨List.mem_of_getElem? jm_mc91, List.forall_mem_cons.mpr ⟨List.mem_of_getElem? jm_mc92, List.forall_mem_cons.mpr ⟨List.mem_of_getElem? jm_mc93, List.forall_mem_cons.mpr ⟨List.mem_of_getElem? jm_mc94, List.forall_mem_cons.mpr ⟨List.mem_of_getElem? jm_mc95, List.forall_mem_cons.mpr ⟨List.mem_of_getElem? jm_mc96, List.forall_mem_cons.mpr ⟨List.mem_of_getElem? jm_mc97, List.forall_mem_cons.mpr ⟨List.mem_of_getElem? jm_mc98, List.forall_mem_cons.mpr ⟨List.mem_of_getElem? jm_mc99, List.forall_mem_cons.mpr ⟨List.mem_of_getElem? jm_mc100, List.forall_mem_cons.mpr ⟨List.mem_of_getElem? jm_mc101, List.forall_mem_cons.mpr ⟨List.mem_of_getElem? jm_mc102, List.forall_mem_cons.mpr ⟨List.mem_of_getElem? jm_mc103, List.forall_mem_cons.mpr ⟨List.mem_of_getElem? jm_mc104, List.forall_mem_cons.mpr ⟨List.mem_of_getElem? jm_mc105, List.forall_mem_cons.mpr ⟨List.mem_of_getElem? jm_mc106, List.forall_mem_cons.mpr ⟨List.mem_of_getElem? jm_mc107, List.forall_mem_cons.mpr ⟨List.mem_of_getElem? jm_mc108, List.forall_mem_cons.mpr ⟨List.mem_of_getElem? jm_mc109, List.forall_mem_cons.mpr ⟨List.mem_of_getElem? jm_mc110, List.forall_mem_cons.mpr ⟨List.mem_of_getElem? jm_mc111, List.forall_mem_cons.mpr ⟨List.mem_of_getElem? jm_mc112, List.forall_mem_cons.mpr ⟨List.mem_of_getElem? jm_mc113, List.forall_mem_cons.mpr ⟨List.mem_of_getElem? jm_mc114, List.forall_mem_cons.mpr ⟨List.mem_of_getElem? jm_mc115, List.forall_mem_cons.mpr ⟨List.mem_of_getElem? jm_mc116, List.forall_mem_cons.mpr ⟨List.mem_of_getElem? jm_mc117, List.forall_mem_cons.mpr ⟨List.mem_of_getElem? jm_mc118, List.forall_mem_cons.mpr ⟨List.mem_of_getElem? jm_mc119, fun _ h => absurd h List.not_mem_nil⟩⟩⟩⟩⟩⟩⟩⟩⟩⟩⟩⟩⟩⟩⟩⟩⟩⟩⟩⟩⟩⟩⟩⟩⟩⟩⟩⟩⟩⟩⟩⟩⟩⟩⟩⟩⟩⟩⟩⟩⟩⟩⟩⟩⟩⟩⟩⟩⟩⟩⟩⟩⟩⟩⟩⟩⟩⟩⟩⟩
set_option maxRecDepth 100000 in
theorem jm_mc120 : lw_tbl[814]? = some (.code ⟨"OneWayTown$Ways", "measure", "()V"⟩ prog_12_method_2_code 6 none) := by rfl
set_option maxRecDepth 100000 in
theorem jm_mc121 : lw_tbl[818]? = some (.code ⟨"OneWayTown$Ways", "sortFromFirst", "()V"⟩ prog_12_method_3_code 4 none) := by rfl
set_option maxRecDepth 100000 in
theorem jm_mc122 : lw_tbl[843]? = some (.code ⟨"OneWayTown$Ways", "walk", "(II[I)I"⟩ prog_12_method_4_code 6 (some .int)) := by rfl
set_option maxRecDepth 100000 in
theorem jm_mc123 : lw_tbl[847]? = some (.code ⟨"OneWayTown$Ways", "nextToward", "(II)I"⟩ prog_12_method_5_code 5 (some .int)) := by rfl
set_option maxRecDepth 100000 in
theorem jm_mc124 : lw_tbl[859]? = some (.code ⟨"OneWayTown$Ways", "longestFrom", "(I)I"⟩ prog_12_method_6_code 4 (some .int)) := by rfl
set_option maxRecDepth 100000 in
theorem jm_mc125 : lw_tbl[870]? = some (.code ⟨"OneWayTown$Ways", "firstFarthest", "()I"⟩ prog_12_method_9_code 3 (some .int)) := by rfl
set_option maxRecDepth 100000 in
theorem jm_mc126 : lw_tbl[874]? = some (.code ⟨"OneWayTown$Ways", "longest", "()I"⟩ prog_12_method_7_code 3 (some .int)) := by rfl
set_option maxRecDepth 100000 in
theorem jm_mc127 : lw_tbl[879]? = some (.code ⟨"OneWayTown$Ways", "firstFarFrom", "(I)I"⟩ prog_12_method_10_code 4 (some .int)) := by rfl
set_option maxRecDepth 100000 in
theorem jm_mc128 : lw_tbl[887]? = some (.code ⟨"OneWayTown$Ways", "offMiddle", "(II)I"⟩ prog_12_method_11_code 3 (some .int)) := by rfl
set_option maxRecDepth 100000 in
theorem jm_mc129 : lw_tbl[891]? = some (.code ⟨"OneWayTown$Ways", "walkedTo", "(I)I"⟩ prog_12_method_12_code 4 (some .int)) := by rfl
set_option maxRecDepth 100000 in
theorem jm_mc130 : lw_tbl[895]? = some (.code ⟨"OneWayTown$Ways", "greatestQuarter", "(I)I"⟩ prog_12_method_13_code 5 (some .int)) := by rfl
set_option maxRecDepth 100000 in
theorem jm_mc131 : lw_tbl[899]? = some (.code ⟨"OneWayTown$Ways", "quartersWithout", "(I[I)I"⟩ prog_12_method_14_code 5 (some .int)) := by rfl
set_option maxRecDepth 100000 in
theorem jm_mc132 : lw_tbl[903]? = some (.code ⟨"OneWayTown$Ways", "sumBehind", "()V"⟩ prog_12_method_15_code 3 none) := by rfl
set_option maxRecDepth 100000 in
theorem jm_mc133 : lw_tbl[924]? = some (.code ⟨"OneWayTown$Ways", "joinElsewhere", "(I)V"⟩ prog_12_method_16_code 9 none) := by rfl
set_option maxRecDepth 100000 in
theorem jm_mc134 : lw_tbl[928]? = some (.code ⟨"OneWayTown$Ways", "maskWithin", "(I)I"⟩ prog_12_method_17_code 4 (some .int)) := by rfl
set_option maxRecDepth 100000 in
theorem jm_mc135 : lw_tbl[937]? = some (.code ⟨"OneWayTown$Ways", "measureParts", "(I)I"⟩ prog_12_method_18_code 5 (some .int)) := by rfl
set_option maxRecDepth 100000 in
theorem jm_mc136 : lw_tbl[1297]? = some (.code ⟨"OneWayTown$Ways", "leastLongest", "()I"⟩ prog_12_method_8_code 3 (some .int)) := by rfl
set_option maxRecDepth 100000 in
theorem jm_mc137 : lw_tbl[173]? = some (.code ⟨"OneWayTown", "<init>", "()V"⟩ prog_1_method_1_code 2 none) := by rfl
set_option maxRecDepth 100000 in
theorem jm_mc138 : lw_tbl[620]? = some (.code ⟨"OneWayTown", "feed", "(IIIII)I"⟩ prog_1_method_2_code 6 (some .int)) := by rfl
set_option maxRecDepth 100000 in
theorem jm_mc139 : lw_tbl[628]? = some (.code ⟨"OneWayTown", "end", "(I)I"⟩ prog_1_method_3_code 2 (some .int)) := by rfl
set_option maxRecDepth 100000 in
theorem jm_mc140 : lw_tbl[632]? = some (.code ⟨"OneWayTown", "town", "()I"⟩ prog_1_method_4_code 2 (some .int)) := by rfl
set_option maxRecDepth 100000 in
theorem jm_mc141 : lw_tbl[810]? = some (.code ⟨"OneWayTown", "renew", "()V"⟩ prog_1_method_47_code 1 none) := by rfl
set_option maxRecDepth 100000 in
theorem jm_mc142 : lw_tbl[823]? = some (.code ⟨"OneWayTown", "fault", "(I)I"⟩ prog_1_method_5_code 2 (some .int)) := by rfl
set_option maxRecDepth 100000 in
theorem jm_mc143 : lw_tbl[827]? = some (.code ⟨"OneWayTown", "house", "(II)I"⟩ prog_1_method_6_code 3 (some .int)) := by rfl
set_option maxRecDepth 100000 in
theorem jm_mc144 : lw_tbl[839]? = some (.code ⟨"OneWayTown", "way", "(II)I"⟩ prog_1_method_7_code 3 (some .int)) := by rfl
set_option maxRecDepth 100000 in
theorem jm_mc145 : lw_tbl[855]? = some (.code ⟨"OneWayTown", "far", "(I)I"⟩ prog_1_method_8_code 2 (some .int)) := by rfl
set_option maxRecDepth 100000 in
theorem jm_mc146 : lw_tbl[866]? = some (.code ⟨"OneWayTown", "farthest", "(I)I"⟩ prog_1_method_9_code 4 (some .int)) := by rfl
set_option maxRecDepth 100000 in
theorem jm_mc147 : lw_tbl[883]? = some (.code ⟨"OneWayTown", "middle", "(I)I"⟩ prog_1_method_10_code 4 (some .int)) := by rfl
set_option maxRecDepth 100000 in
theorem jm_mc148 : lw_tbl[907]? = some (.code ⟨"OneWayTown", "post", "(IZ)I"⟩ prog_1_method_11_code 4 (some .int)) := by rfl
set_option maxRecDepth 100000 in
theorem jm_mc149 : lw_tbl[915]? = some (.code ⟨"OneWayTown", "quarters", "(I)I"⟩ prog_1_method_12_code 2 (some .int)) := by rfl
set_option maxRecDepth 100000 in
theorem jm_mc150 : lw_tbl[920]? = some (.code ⟨"OneWayTown", "joined", "(II)I"⟩ prog_1_method_13_code 3 (some .int)) := by rfl
set_option maxRecDepth 100000 in
theorem jm_mc151 : lw_tbl[941]? = some (.code ⟨"OneWayTown", "grow", "(III)I"⟩ prog_1_method_14_code 5 (some .int)) := by rfl
set_option maxRecDepth 100000 in
theorem jm_mc152 : lw_tbl[946]? = some (.code ⟨"OneWayTown", "keepAct", "()V"⟩ prog_1_method_46_code 1 none) := by rfl
set_option maxRecDepth 100000 in
theorem jm_mc153 : lw_tbl[954]? = some (.code ⟨"OneWayTown", "move", "(II)Z"⟩ prog_1_method_15_code 3 (some .boolean)) := by rfl
set_option maxRecDepth 100000 in
theorem jm_mc154 : lw_tbl[959]? = some (.code ⟨"OneWayTown", "live", "(II)I"⟩ prog_1_method_16_code 4 (some .int)) := by rfl
set_option maxRecDepth 100000 in
theorem jm_mc155 : lw_tbl[963]? = some (.code ⟨"OneWayTown", "years", "(I)I"⟩ prog_1_method_17_code 3 (some .int)) := by rfl
set_option maxRecDepth 100000 in
theorem jm_mc156 : lw_tbl[978]? = some (.code ⟨"OneWayTown", "grown", "(IJ)Z"⟩ prog_1_method_18_code 4 (some .boolean)) := by rfl
set_option maxRecDepth 100000 in
theorem jm_mc157 : lw_tbl[1010]? = some (.code ⟨"OneWayTown", "undo", "()Z"⟩ prog_1_method_19_code 1 (some .boolean)) := by rfl
set_option maxRecDepth 100000 in
theorem jm_mc158 : lw_tbl[1018]? = some (.code ⟨"OneWayTown", "redo", "()Z"⟩ prog_1_method_20_code 1 (some .boolean)) := by rfl
set_option maxRecDepth 100000 in
theorem jm_mc159 : lw_tbl[1026]? = some (.code ⟨"OneWayTown", "image", "(I)I"⟩ prog_1_method_21_code 2 (some .int)) := by rfl
set_option maxRecDepth 100000 in
theorem jm_mc160 : lw_tbl[1030]? = some (.code ⟨"OneWayTown", "back", "(I)I"⟩ prog_1_method_22_code 2 (some .int)) := by rfl
set_option maxRecDepth 100000 in
theorem jm_mc161 : lw_tbl[1034]? = some (.code ⟨"OneWayTown", "isFilled", "(I)Z"⟩ prog_1_method_45_code 2 (some .boolean)) := by rfl
set_option maxRecDepth 100000 in
theorem jm_mc162 : lw_tbl[1038]? = some (.code ⟨"OneWayTown", "wardens", "(I)I"⟩ prog_1_method_23_code 2 (some .int)) := by rfl
set_option maxRecDepth 100000 in
theorem jm_mc163 : lw_tbl[1069]? = some (.code ⟨"OneWayTown", "quiet", "()I"⟩ prog_1_method_24_code 1 (some .int)) := by rfl
set_option maxRecDepth 100000 in
theorem jm_mc164 : lw_tbl[1087]? = some (.code ⟨"OneWayTown", "guards", "()I"⟩ prog_1_method_25_code 1 (some .int)) := by rfl
set_option maxRecDepth 100000 in
theorem jm_mc165 : lw_tbl[1095]? = some (.code ⟨"OneWayTown", "wells", "(I)I"⟩ prog_1_method_26_code 3 (some .int)) := by rfl
set_option maxRecDepth 100000 in
theorem jm_mc166 : lw_tbl[1103]? = some (.code ⟨"OneWayTown", "lay", "(I)V"⟩ prog_1_method_48_code 3 none) := by rfl
set_option maxRecDepth 100000 in
theorem jm_mc167 : lw_tbl[1107]? = some (.code ⟨"OneWayTown", "shops", "(I)I"⟩ prog_1_method_27_code 2 (some .int)) := by rfl
set_option maxRecDepth 100000 in
theorem jm_mc168 : lw_tbl[1124]? = some (.code ⟨"OneWayTown", "counted", "(I)I"⟩ prog_1_method_28_code 2 (some .int)) := by rfl
set_option maxRecDepth 100000 in
theorem jm_mc169 : lw_tbl[1144]? = some (.code ⟨"OneWayTown", "news", "(I)I"⟩ prog_1_method_29_code 2 (some .int)) := by rfl
set_option maxRecDepth 100000 in
theorem jm_mc170 : lw_tbl[1161]? = some (.code ⟨"OneWayTown", "tidings", "(I)I"⟩ prog_1_method_30_code 2 (some .int)) := by rfl
set_option maxRecDepth 100000 in
theorem jm_mc171 : lw_tbl[1165]? = some (.code ⟨"OneWayTown", "bestNews", "()I"⟩ prog_1_method_31_code 5 (some .int)) := by rfl
set_option maxRecDepth 100000 in
theorem jm_mc172 : lw_tbl[1169]? = some (.code ⟨"OneWayTown", "carts", "(I)I"⟩ prog_1_method_32_code 3 (some .int)) := by rfl
set_option maxRecDepth 100000 in
theorem jm_mc173 : lw_tbl[1211]? = some (.code ⟨"OneWayTown", "alike", "(IZ)I"⟩ prog_1_method_33_code 3 (some .int)) := by rfl
set_option maxRecDepth 100000 in
theorem jm_mc174 : lw_tbl[1233]? = some (.code ⟨"OneWayTown", "selves", "(Z)J"⟩ prog_1_method_34_code 2 (some .long)) := by rfl
set_option maxRecDepth 100000 in
theorem jm_mc175 : lw_tbl[1245]? = some (.code ⟨"OneWayTown", "unlike", "(I)I"⟩ prog_1_method_35_code 2 (some .int)) := by rfl
set_option maxRecDepth 100000 in
theorem jm_mc176 : lw_tbl[1261]? = some (.code ⟨"OneWayTown", "marks", "()I"⟩ prog_1_method_36_code 1 (some .int)) := by rfl
set_option maxRecDepth 100000 in
theorem jm_mc177 : lw_tbl[1275]? = some (.code ⟨"OneWayTown", "tried", "(II)I"⟩ prog_1_method_37_code 3 (some .int)) := by rfl
set_option maxRecDepth 100000 in
theorem jm_mc178 : lw_tbl[1331]? = some (.code ⟨"OneWayTown", "lies", "(I)I"⟩ prog_1_method_38_code 2 (some .int)) := by rfl
set_option maxRecDepth 100000 in
theorem jm_mc179 : lw_tbl[1335]? = some (.code ⟨"OneWayTown", "distance", "(III)I"⟩ prog_1_method_39_code 4 (some .int)) := by rfl
theorem jm_mc_3 : ∀ q ∈ jm_ms_3, Cond.code q.1 q.2.1 q.2.2.1 q.2.2.2.1 ∈ lw_tbl := List.forall_mem_cons.mpr ⟨List.mem_of_getElem? jm_mc120, List.forall_mem_cons.mpr ⟨List.mem_of_getElem? jm_mc121, List.forall_mem_cons.mpr ⟨List.mem_of_getElem? jm_mc122, List.forall_mem_cons.mpr ⟨List.mem_of_getElem? jm_mc123, List.forall_mem_cons.mpr ⟨List.mem_of_getElem? jm_mc124, List.forall_mem_cons.mpr ⟨List.mem_of_getElem? jm_mc125, List.forall_mem_cons.mpr ⟨List.mem_of_getElem? jm_mc126, List.forall_mem_cons.mpr ⟨List.mem_of_getElem? jm_mc127, List.forall_mem_cons.mpr ⟨List.mem_of_getElem? jm_mc128, List.forall_mem_cons.mpr ⟨List.mem_of_getElem? jm_mc129, List.forall_mem_cons.mpr ⟨List.mem_of_getElem? jm_mc130, List.forall_mem_cons.mpr ⟨List.mem_of_getElem? jm_mc131, List.forall_mem_cons.mpr ⟨List.mem_of_getElem? jm_mc132, List.forall_mem_cons.mpr ⟨List.mem_of_getElem? jm_mc133, List.forall_mem_cons.mpr ⟨List.mem_of_getElem? jm_mc134, List.forall_mem_cons.mpr ⟨List.mem_of_getElem? jm_mc135, List.forall_mem_cons.mpr ⟨List.mem_of_getElem? jm_mc136, List.forall_mem_cons.mpr ⟨List.mem_of_getElem? jm_mc137, List.forall_mem_cons.mpr ⟨List.mem_of_getElem? jm_mc138, List.forall_mem_cons.mpr ⟨List.mem_of_getElem? jm_mc139, List.forall_mem_cons.mpr ⟨List.mem_of_getElem? jm_mc140, List.forall_mem_cons.mpr ⟨List.mem_of_getElem? jm_mc141, List.forall_mem_cons.mpr ⟨List.mem_of_getElem? jm_mc142, List.forall_mem_cons.mpr ⟨List.mem_of_getElem? jm_mc143, List.forall_mem_cons.mpr ⟨List.mem_of_getElem? jm_mc144, List.forall_mem_cons.mpr ⟨List.mem_of_getElem? jm_mc145, List.forall_mem_cons.mpr ⟨List.mem_of_getElem? jm_mc146, List.forall_mem_cons.mpr ⟨List.mem_of_getElem? jm_mc147, List.forall_mem_cons.mpr ⟨List.mem_of_getElem? jm_mc148, List.forall_mem_cons.mpr ⟨List.mem_of_getElem? jm_mc149, List.forall_mem_cons.mpr ⟨List.mem_of_getElem? jm_mc150, List.forall_mem_cons.mpr ⟨List.mem_of_getElem? jm_mc151, List.forall_mem_cons.mpr ⟨List.mem_of_getElem? jm_mc152, List.forall_mem_cons.mpr ⟨List.mem_of_getElem? jm_mc153, List.forall_mem_cons.mpr ⟨List.mem_of_getElem? jm_mc154, List.forall_mem_cons.mpr ⟨List.mem_of_getElem? jm_mc155, List.forall_mem_cons.mpr ⟨List.mem_of_getElem? jm_mc156, List.forall_mem_cons.mpr ⟨List.mem_of_getElem? jm_mc157, List.forall_mem_cons.mpr ⟨List.mem_of_getElem? jm_mc158, List.forall_mem_cons.mpr ⟨List.mem_of_getElem? jm_mc159, List.forall_mem_cons.mpr ⟨List.mem_of_getElem? jm_mc160, List.forall_mem_cons.mpr ⟨List.mem_of_getElem? jm_mc161, List.forall_mem_cons.mpr ⟨List.mem_of_getElem? jm_mc162, List.forall_mem_cons.mpr ⟨List.mem_of_getElem? jm_mc163, List.forall_mem_cons.mpr ⟨List.mem_of_getElem? jm_mc164, List.forall_mem_cons.mpr ⟨List.mem_of_getElem? jm_mc165, List.forall_mem_cons.mpr ⟨List.mem_of_getElem? jm_mc166, List.forall_mem_cons.mpr ⟨List.mem_of_getElem? jm_mc167, List.forall_mem_cons.mpr ⟨List.mem_of_getElem? jm_mc168, List.forall_mem_cons.mpr ⟨List.mem_of_getElem? jm_mc169, List.forall_mem_cons.mpr ⟨List.mem_of_getElem? jm_mc170, List.forall_mem_cons.mpr ⟨List.mem_of_getElem? jm_mc171, List.forall_mem_cons.mpr ⟨List.mem_of_getElem? jm_mc172, List.forall_mem_cons.mpr ⟨List.mem_of_getElem? jm_mc173, List.forall_mem_cons.mpr ⟨List.mem_of_getElem? jm_mc174, List.forall_mem_cons.mpr ⟨List.mem_of_getElem? jm_mc175, List.forall_mem_cons.mpr ⟨List.mem_of_getElem? jm_mc176, List.forall_mem_cons.mpr ⟨List.mem_of_getElem? jm_mc177, List.forall_mem_cons.mpr ⟨List.mem_of_getElem? jm_mc178, List.forall_mem_cons.mpr ⟨List.mem_of_getElem? jm_mc179, fun _ h => absurd h List.not_mem_nil⟩⟩⟩⟩⟩⟩⟩⟩⟩⟩⟩⟩⟩⟩⟩⟩⟩⟩⟩⟩⟩⟩⟩⟩⟩⟩⟩⟩⟩⟩⟩⟩⟩⟩⟩⟩⟩⟩⟩⟩⟩⟩⟩⟩⟩⟩⟩⟩⟩⟩⟩⟩⟩⟩⟩⟩⟩⟩⟩⟩
set_option maxRecDepth 100000 in
theorem jm_mc180 : lw_tbl[1346]? = some (.code ⟨"OneWayTown", "untell", "(I)Z"⟩ prog_1_method_40_code 2 (some .boolean)) := by rfl
set_option maxRecDepth 100000 in
theorem jm_mc181 : lw_tbl[1354]? = some (.code ⟨"OneWayTown", "later", "(I)I"⟩ prog_1_method_41_code 2 (some .int)) := by rfl
set_option maxRecDepth 100000 in
theorem jm_mc182 : lw_tbl[1363]? = some (.code ⟨"OneWayTown", "wrong", "(II)I"⟩ prog_1_method_42_code 3 (some .int)) := by rfl
set_option maxRecDepth 100000 in
theorem jm_mc183 : lw_tbl[1391]? = some (.code ⟨"OneWayTown", "mended", "(III)I"⟩ prog_1_method_43_code 4 (some .int)) := by rfl
set_option maxRecDepth 100000 in
theorem jm_mc184 : lw_tbl[1415]? = some (.code ⟨"OneWayTown", "about", "(I)I"⟩ prog_1_method_44_code 2 (some .int)) := by rfl
set_option maxRecDepth 100000 in
theorem jm_mc185 : lw_tbl[1424]? = some (.code ⟨"OneWayTownModel", "<init>", "()V"⟩ prog_14_method_1_code 2 none) := by rfl
set_option maxRecDepth 100000 in
theorem jm_mc186 : lw_tbl[1430]? = some (.code ⟨"OneWayTownModel", "clearBank", "()V"⟩ prog_14_method_14_code 1 none) := by rfl
set_option maxRecDepth 100000 in
theorem jm_mc187 : lw_tbl[1434]? = some (.code ⟨"OneWayTownModel", "begin", "()V"⟩ prog_14_method_33_code 2 none) := by rfl
set_option maxRecDepth 100000 in
theorem jm_mc188 : lw_tbl[1438]? = some (.code ⟨"OneWayTownModel", "many", "()I"⟩ prog_14_method_27_code 1 (some .int)) := by rfl
set_option maxRecDepth 100000 in
theorem jm_mc189 : lw_tbl[1442]? = some (.code ⟨"OneWayTownModel", "lay", "(IIII)V"⟩ prog_14_method_32_code 5 none) := by rfl
set_option maxRecDepth 100000 in
theorem jm_mc190 : lw_tbl[1654]? = some (.code ⟨"OneWayTownModel", "town", "()I"⟩ prog_14_method_15_code 2 (some .int)) := by rfl
set_option maxRecDepth 100000 in
theorem jm_mc191 : lw_tbl[1658]? = some (.code ⟨"OneWayTownModel", "goOn", "()V"⟩ prog_14_method_8_code 3 none) := by rfl
set_option maxRecDepth 100000 in
theorem jm_mc192 : lw_tbl[1662]? = some (.code ⟨"OneWayTownModel", "sign", "(I)I"⟩ prog_14_method_2_code 2 (some .int)) := by rfl
set_option maxRecDepth 100000 in
theorem jm_mc193 : lw_tbl[1665]? = some (.code ⟨"OneWayTownModel", "isLetter", "(I)Z"⟩ prog_14_method_3_code 1 (some .boolean)) := by rfl
set_option maxRecDepth 100000 in
theorem jm_mc194 : lw_tbl[1668]? = some (.code ⟨"OneWayTownModel", "isKept", "(J)Z"⟩ prog_14_method_7_code 2 (some .boolean)) := by rfl
set_option maxRecDepth 100000 in
theorem jm_mc195 : lw_tbl[1678]? = some (.code ⟨"OneWayTownModel", "isDigit", "(I)Z"⟩ prog_14_method_4_code 1 (some .boolean)) := by rfl
set_option maxRecDepth 100000 in
theorem jm_mc196 : lw_tbl[1682]? = some (.code ⟨"OneWayTownModel", "isGood", "()Z"⟩ prog_14_method_6_code 1 (some .boolean)) := by rfl
set_option maxRecDepth 100000 in
theorem jm_mc197 : lw_tbl[1686]? = some (.code ⟨"OneWayTownModel", "readLine", "()V"⟩ prog_14_method_17_code 3 none) := by rfl
set_option maxRecDepth 100000 in
theorem jm_mc198 : lw_tbl[1690]? = some (.code ⟨"OneWayTownModel", "isFull", "()Z"⟩ prog_14_method_16_code 1 (some .boolean)) := by rfl
set_option maxRecDepth 100000 in
theorem jm_mc199 : lw_tbl[1694]? = some (.code ⟨"OneWayTownModel", "isWord", "(J)Z"⟩ prog_14_method_9_code 3 (some .boolean)) := by rfl
set_option maxRecDepth 100000 in
theorem jm_mc200 : lw_tbl[1698]? = some (.code ⟨"OneWayTownModel", "misplaced", "()V"⟩ prog_14_method_10_code 1 none) := by rfl
set_option maxRecDepth 100000 in
theorem jm_mc201 : lw_tbl[1702]? = some (.code ⟨"OneWayTownModel", "fails", "(II)V"⟩ prog_14_method_5_code 3 none) := by rfl
set_option maxRecDepth 100000 in
theorem jm_mc202 : lw_tbl[1706]? = some (.code ⟨"OneWayTownModel", "readHouse", "()V"⟩ prog_14_method_22_code 2 none) := by rfl
set_option maxRecDepth 100000 in
theorem jm_mc203 : lw_tbl[1710]? = some (.code ⟨"OneWayTownModel", "houseHere", "()I"⟩ prog_14_method_19_code 1 (some .int)) := by rfl
set_option maxRecDepth 100000 in
theorem jm_mc204 : lw_tbl[1714]? = some (.code ⟨"OneWayTownModel", "here", "([JII)I"⟩ prog_14_method_18_code 5 (some .int)) := by rfl
set_option maxRecDepth 100000 in
theorem jm_mc205 : lw_tbl[1718]? = some (.code ⟨"OneWayTownModel", "fresh", "(Z)V"⟩ prog_14_method_20_code 2 none) := by rfl
set_option maxRecDepth 100000 in
theorem jm_mc206 : lw_tbl[1722]? = some (.code ⟨"OneWayTownModel", "must", "(Z)V"⟩ prog_14_method_11_code 2 none) := by rfl
set_option maxRecDepth 100000 in
theorem jm_mc207 : lw_tbl[1726]? = some (.code ⟨"OneWayTownModel", "known", "()I"⟩ prog_14_method_21_code 2 (some .int)) := by rfl
set_option maxRecDepth 100000 in
theorem jm_mc208 : lw_tbl[1730]? = some (.code ⟨"OneWayTownModel", "after", "(JII)I"⟩ prog_14_method_13_code 5 (some .int)) := by rfl
set_option maxRecDepth 100000 in
theorem jm_mc209 : lw_tbl[1734]? = some (.code ⟨"OneWayTownModel", "numeral", "(II)I"⟩ prog_14_method_12_code 4 (some .int)) := by rfl
set_option maxRecDepth 100000 in
theorem jm_mc210 : lw_tbl[1738]? = some (.code ⟨"OneWayTownModel", "readCart", "()V"⟩ prog_14_method_23_code 3 none) := by rfl
set_option maxRecDepth 100000 in
theorem jm_mc211 : lw_tbl[1742]? = some (.code ⟨"OneWayTownModel", "fault", "(I)I"⟩ prog_14_method_24_code 2 (some .int)) := by rfl
set_option maxRecDepth 100000 in
theorem jm_mc212 : lw_tbl[1746]? = some (.code ⟨"OneWayTownModel", "house", "(II)I"⟩ prog_14_method_40_code 3 (some .int)) := by rfl
set_option maxRecDepth 100000 in
theorem jm_mc213 : lw_tbl[1750]? = some (.code ⟨"OneWayTownModel", "isHouse", "(I)Z"⟩ prog_14_method_28_code 2 (some .boolean)) := by rfl
set_option maxRecDepth 100000 in
theorem jm_mc214 : lw_tbl[1753]? = some (.code ⟨"OneWayTownModel", "isIn", "(III)Z"⟩ prog_14_method_25_code 3 (some .boolean)) := by rfl
set_option maxRecDepth 100000 in
theorem jm_mc215 : lw_tbl[1757]? = some (.code ⟨"OneWayTownModel", "hangsAt", "(I)I"⟩ prog_14_method_29_code 2 (some .int)) := by rfl
set_option maxRecDepth 100000 in
theorem jm_mc216 : lw_tbl[1761]? = some (.code ⟨"OneWayTownModel", "streetOf", "(I)I"⟩ prog_14_method_30_code 2 (some .int)) := by rfl
set_option maxRecDepth 100000 in
theorem jm_mc217 : lw_tbl[1765]? = some (.code ⟨"OneWayTownModel", "peopleOf", "(I)I"⟩ prog_14_method_31_code 2 (some .int)) := by rfl
set_option maxRecDepth 100000 in
theorem jm_mc218 : lw_tbl[1769]? = some (.code ⟨"OneWayTownModel", "streetsOf", "(I)I"⟩ prog_14_method_35_code 4 (some .int)) := by rfl
set_option maxRecDepth 100000 in
theorem jm_mc219 : lw_tbl[1773]? = some (.code ⟨"OneWayTownModel", "areNext", "(II)Z"⟩ prog_14_method_34_code 3 (some .boolean)) := by rfl
set_option maxRecDepth 100000 in
theorem jm_mc220 : lw_tbl[1777]? = some (.code ⟨"OneWayTownModel", "lies", "(I)I"⟩ prog_14_method_41_code 2 (some .int)) := by rfl
set_option maxRecDepth 100000 in
theorem jm_mc221 : lw_tbl[1781]? = some (.code ⟨"OneWayTownModel", "way", "(II)I"⟩ prog_14_method_43_code 6 (some .int)) := by rfl
set_option maxRecDepth 100000 in
theorem jm_mc222 : lw_tbl[1785]? = some (.code ⟨"OneWayTownModel", "layWays", "()V"⟩ prog_14_method_38_code 3 none) := by rfl
set_option maxRecDepth 100000 in
theorem jm_mc223 : lw_tbl[1789]? = some (.code ⟨"OneWayTownModel", "wayOf", "(II)I"⟩ prog_14_method_37_code 6 (some .int)) := by rfl
set_option maxRecDepth 100000 in
theorem jm_mc224 : lw_tbl[1793]? = some (.code ⟨"OneWayTownModel", "deepOf", "(I)I"⟩ prog_14_method_36_code 4 (some .int)) := by rfl
set_option maxRecDepth 100000 in
theorem jm_mc225 : lw_tbl[1797]? = some (.code ⟨"OneWayTownModel", "add", "(I)V"⟩ prog_14_method_42_code 2 none) := by rfl
set_option maxRecDepth 100000 in
theorem jm_mc226 : lw_tbl[1801]? = some (.code ⟨"OneWayTownModel", "far", "(I)I"⟩ prog_14_method_44_code 2 (some .int)) := by rfl
set_option maxRecDepth 100000 in
theorem jm_mc227 : lw_tbl[1805]? = some (.code ⟨"OneWayTownModel", "farOf", "(I)I"⟩ prog_14_method_39_code 4 (some .int)) := by rfl
set_option maxRecDepth 100000 in
theorem jm_mc228 : lw_tbl[1809]? = some (.code ⟨"OneWayTownModel", "farthest", "(I)I"⟩ prog_14_method_45_code 5 (some .int)) := by rfl
set_option maxRecDepth 100000 in
theorem jm_mc229 : lw_tbl[1813]? = some (.code ⟨"OneWayTownModel", "middle", "(I)I"⟩ prog_14_method_49_code 4 (some .int)) := by rfl
set_option maxRecDepth 100000 in
theorem jm_mc230 : lw_tbl[1817]? = some (.code ⟨"OneWayTownModel", "worthOf", "(II)I"⟩ prog_14_method_48_code 5 (some .int)) := by rfl
set_option maxRecDepth 100000 in
theorem jm_mc231 : lw_tbl[1821]? = some (.code ⟨"OneWayTownModel", "peopleBehind", "(II)I"⟩ prog_14_method_46_code 5 (some .int)) := by rfl
set_option maxRecDepth 100000 in
theorem jm_mc232 : lw_tbl[1825]? = some (.code ⟨"OneWayTownModel", "isBetween", "(III)Z"⟩ prog_14_method_47_code 4 (some .boolean)) := by rfl
set_option maxRecDepth 100000 in
theorem jm_mc233 : lw_tbl[1829]? = some (.code ⟨"OneWayTownModel", "post", "(IZ)I"⟩ prog_14_method_51_code 3 (some .int)) := by rfl
set_option maxRecDepth 100000 in
theorem jm_mc234 : lw_tbl[1833]? = some (.code ⟨"OneWayTownModel", "streetsTogether", "()I"⟩ prog_14_method_50_code 3 (some .int)) := by rfl
set_option maxRecDepth 100000 in
theorem jm_mc235 : lw_tbl[1837]? = some (.code ⟨"OneWayTownModel", "quarters", "(I)I"⟩ prog_14_method_52_code 3 (some .int)) := by rfl
set_option maxRecDepth 100000 in
theorem jm_mc236 : lw_tbl[1841]? = some (.code ⟨"OneWayTownModel", "grow", "(III)I"⟩ prog_14_method_56_code 4 (some .int)) := by rfl
set_option maxRecDepth 100000 in
theorem jm_mc237 : lw_tbl[1845]? = some (.code ⟨"OneWayTownModel", "keepAct", "()V"⟩ prog_14_method_53_code 2 none) := by rfl
set_option maxRecDepth 100000 in
theorem jm_mc238 : lw_tbl[1849]? = some (.code ⟨"OneWayTownModel", "grows", "(III)V"⟩ prog_14_method_55_code 4 none) := by rfl
set_option maxRecDepth 100000 in
theorem jm_mc239 : lw_tbl[1853]? = some (.code ⟨"OneWayTownModel", "move", "(II)Z"⟩ prog_14_method_58_code 3 (some .boolean)) := by rfl
theorem jm_mc_4 : ∀ q ∈ jm_ms_4, Cond.code q.1 q.2.1 q.2.2.1 q.2.2.2.1 ∈ lw_tbl := List.forall_mem_cons.mpr ⟨List.mem_of_getElem? jm_mc180, List.forall_mem_cons.mpr ⟨List.mem_of_getElem? jm_mc181, List.forall_mem_cons.mpr ⟨List.mem_of_getElem? jm_mc182, List.forall_mem_cons.mpr ⟨List.mem_of_getElem? jm_mc183, List.forall_mem_cons.mpr ⟨List.mem_of_getElem? jm_mc184, List.forall_mem_cons.mpr ⟨List.mem_of_getElem? jm_mc185, List.forall_mem_cons.mpr ⟨List.mem_of_getElem? jm_mc186, List.forall_mem_cons.mpr ⟨List.mem_of_getElem? jm_mc187, List.forall_mem_cons.mpr ⟨List.mem_of_getElem? jm_mc188, List.forall_mem_cons.mpr ⟨List.mem_of_getElem? jm_mc189, List.forall_mem_cons.mpr ⟨List.mem_of_getElem? jm_mc190, List.forall_mem_cons.mpr ⟨List.mem_of_getElem? jm_mc191, List.forall_mem_cons.mpr ⟨List.mem_of_getElem? jm_mc192, List.forall_mem_cons.mpr ⟨List.mem_of_getElem? jm_mc193, List.forall_mem_cons.mpr ⟨List.mem_of_getElem? jm_mc194, List.forall_mem_cons.mpr ⟨List.mem_of_getElem? jm_mc195, List.forall_mem_cons.mpr ⟨List.mem_of_getElem? jm_mc196, List.forall_mem_cons.mpr ⟨List.mem_of_getElem? jm_mc197, List.forall_mem_cons.mpr ⟨List.mem_of_getElem? jm_mc198, List.forall_mem_cons.mpr ⟨List.mem_of_getElem? jm_mc199, List.forall_mem_cons.mpr ⟨List.mem_of_getElem? jm_mc200, List.forall_mem_cons.mpr ⟨List.mem_of_getElem? jm_mc201, List.forall_mem_cons.mpr ⟨List.mem_of_getElem? jm_mc202, List.forall_mem_cons.mpr ⟨List.mem_of_getElem? jm_mc203, List.forall_mem_cons.mpr ⟨List.mem_of_getElem? jm_mc204, List.forall_mem_cons.mpr ⟨List.mem_of_getElem? jm_mc205, List.forall_mem_cons.mpr ⟨List.mem_of_getElem? jm_mc206, List.forall_mem_cons.mpr ⟨List.mem_of_getElem? jm_mc207, List.forall_mem_cons.mpr ⟨List.mem_of_getElem? jm_mc208, List.forall_mem_cons.mpr ⟨List.mem_of_getElem? jm_mc209, List.forall_mem_cons.mpr ⟨List.mem_of_getElem? jm_mc210, List.forall_mem_cons.mpr ⟨List.mem_of_getElem? jm_mc211, List.forall_mem_cons.mpr ⟨List.mem_of_getElem? jm_mc212, List.forall_mem_cons.mpr ⟨List.mem_of_getElem? jm_mc213, List.forall_mem_cons.mpr ⟨List.mem_of_getElem? jm_mc214, List.forall_mem_cons.mpr ⟨List.mem_of_getElem? jm_mc215, List.forall_mem_cons.mpr ⟨List.mem_of_getElem? jm_mc216, List.forall_mem_cons.mpr ⟨List.mem_of_getElem? jm_mc217, List.forall_mem_cons.mpr ⟨List.mem_of_getElem? jm_mc218, List.forall_mem_cons.mpr ⟨List.mem_of_getElem? jm_mc219, List.forall_mem_cons.mpr ⟨List.mem_of_getElem? jm_mc220, List.forall_mem_cons.mpr ⟨List.mem_of_getElem? jm_mc221, List.forall_mem_cons.mpr ⟨List.mem_of_getElem? jm_mc222, List.forall_mem_cons.mpr ⟨List.mem_of_getElem? jm_mc223, List.forall_mem_cons.mpr ⟨List.mem_of_getElem? jm_mc224, List.forall_mem_cons.mpr ⟨List.mem_of_getElem? jm_mc225, List.forall_mem_cons.mpr ⟨List.mem_of_getElem? jm_mc226, List.forall_mem_cons.mpr ⟨List.mem_of_getElem? jm_mc227, List.forall_mem_cons.mpr ⟨List.mem_of_getElem? jm_mc228, List.forall_mem_cons.mpr ⟨List.mem_of_getElem? jm_mc229, List.forall_mem_cons.mpr ⟨List.mem_of_getElem? jm_mc230, List.forall_mem_cons.mpr ⟨List.mem_of_getElem? jm_mc231, List.forall_mem_cons.mpr ⟨List.mem_of_getElem? jm_mc232, List.forall_mem_cons.mpr ⟨List.mem_of_getElem? jm_mc233, List.forall_mem_cons.mpr ⟨List.mem_of_getElem? jm_mc234, List.forall_mem_cons.mpr ⟨List.mem_of_getElem? jm_mc235, List.forall_mem_cons.mpr ⟨List.mem_of_getElem? jm_mc236, List.forall_mem_cons.mpr ⟨List.mem_of_getElem? jm_mc237, List.forall_mem_cons.mpr ⟨List.mem_of_getElem? jm_mc238, List.forall_mem_cons.mpr ⟨List.mem_of_getElem? jm_mc239, fun _ h => absurd h List.not_mem_nil⟩⟩⟩⟩⟩⟩⟩⟩⟩⟩⟩⟩⟩⟩⟩⟩⟩⟩⟩⟩⟩⟩⟩⟩⟩⟩⟩⟩⟩⟩⟩⟩⟩⟩⟩⟩⟩⟩⟩⟩⟩⟩⟩⟩⟩⟩⟩⟩⟩⟩⟩⟩⟩⟩⟩⟩⟩⟩⟩⟩
set_option maxRecDepth 100000 in
theorem jm_mc240 : lw_tbl[1857]? = some (.code ⟨"OneWayTownModel", "isBehind", "(II)Z"⟩ prog_14_method_57_code 4 (some .boolean)) := by rfl
set_option maxRecDepth 100000 in
theorem jm_mc241 : lw_tbl[1861]? = some (.code ⟨"OneWayTownModel", "live", "(II)I"⟩ prog_14_method_59_code 4 (some .int)) := by rfl
set_option maxRecDepth 100000 in
theorem jm_mc242 : lw_tbl[1865]? = some (.code ⟨"OneWayTownModel", "years", "(I)I"⟩ prog_14_method_61_code 3 (some .int)) := by rfl
set_option maxRecDepth 100000 in
theorem jm_mc243 : lw_tbl[1869]? = some (.code ⟨"OneWayTownModel", "year", "()V"⟩ prog_14_method_60_code 5 none) := by rfl
set_option maxRecDepth 100000 in
theorem jm_mc244 : lw_tbl[1873]? = some (.code ⟨"OneWayTownModel", "undo", "()Z"⟩ prog_14_method_62_code 1 (some .boolean)) := by rfl
set_option maxRecDepth 100000 in
theorem jm_mc245 : lw_tbl[1877]? = some (.code ⟨"OneWayTownModel", "exchange", "()V"⟩ prog_14_method_54_code 3 none) := by rfl
set_option maxRecDepth 100000 in
theorem jm_mc246 : lw_tbl[1881]? = some (.code ⟨"OneWayTownModel", "redo", "()Z"⟩ prog_14_method_63_code 1 (some .boolean)) := by rfl
set_option maxRecDepth 100000 in
theorem jm_mc247 : lw_tbl[1885]? = some (.code ⟨"OneWayTownModel", "wardens", "(I)I"⟩ prog_14_method_68_code 2 (some .int)) := by rfl
set_option maxRecDepth 100000 in
theorem jm_mc248 : lw_tbl[1889]? = some (.code ⟨"OneWayTownModel", "wardensBy", "(I)I"⟩ prog_14_method_67_code 6 (some .int)) := by rfl
set_option maxRecDepth 100000 in
theorem jm_mc249 : lw_tbl[1893]? = some (.code ⟨"OneWayTownModel", "layNear", "(I)V"⟩ prog_14_method_66_code 4 none) := by rfl
set_option maxRecDepth 100000 in
theorem jm_mc250 : lw_tbl[1897]? = some (.code ⟨"OneWayTownModel", "sets", "()I"⟩ prog_14_method_65_code 1 (some .int)) := by rfl
set_option maxRecDepth 100000 in
theorem jm_mc251 : lw_tbl[1900]? = some (.code ⟨"OneWayTownModel", "bitsOf", "(I)I"⟩ prog_14_method_26_code 3 (some .int)) := by rfl
set_option maxRecDepth 100000 in
theorem jm_mc252 : lw_tbl[1903]? = some (.code ⟨"OneWayTownModel", "isFirst", "(II)Z"⟩ prog_14_method_64_code 3 (some .boolean)) := by rfl
set_option maxRecDepth 100000 in
theorem jm_mc253 : lw_tbl[1907]? = some (.code ⟨"OneWayTownModel", "quiet", "()I"⟩ prog_14_method_71_code 4 (some .int)) := by rfl
set_option maxRecDepth 100000 in
theorem jm_mc254 : lw_tbl[1911]? = some (.code ⟨"OneWayTownModel", "isApart", "(I)Z"⟩ prog_14_method_69_code 3 (some .boolean)) := by rfl
set_option maxRecDepth 100000 in
theorem jm_mc255 : lw_tbl[1915]? = some (.code ⟨"OneWayTownModel", "peopleIn", "(I)I"⟩ prog_14_method_70_code 4 (some .int)) := by rfl
set_option maxRecDepth 100000 in
theorem jm_mc256 : lw_tbl[1919]? = some (.code ⟨"OneWayTownModel", "guards", "()I"⟩ prog_14_method_72_code 4 (some .int)) := by rfl
set_option maxRecDepth 100000 in
theorem jm_mc257 : lw_tbl[1923]? = some (.code ⟨"OneWayTownModel", "wells", "(I)I"⟩ prog_14_method_73_code 5 (some .int)) := by rfl
set_option maxRecDepth 100000 in
theorem jm_mc258 : lw_tbl[1927]? = some (.code ⟨"OneWayTownModel", "nextFar", "(I)I"⟩ prog_14_method_74_code 6 (some .int)) := by rfl
set_option maxRecDepth 100000 in
theorem jm_mc259 : lw_tbl[1931]? = some (.code ⟨"OneWayTownModel", "shops", "(I)I"⟩ prog_14_method_76_code 7 (some .int)) := by rfl
set_option maxRecDepth 100000 in
theorem jm_mc260 : lw_tbl[1935]? = some (.code ⟨"OneWayTownModel", "shopsBy", "(I)I"⟩ prog_14_method_75_code 6 (some .int)) := by rfl
set_option maxRecDepth 100000 in
theorem jm_mc261 : lw_tbl[1939]? = some (.code ⟨"OneWayTownModel", "counted", "(I)I"⟩ prog_14_method_79_code 5 (some .int)) := by rfl
set_option maxRecDepth 100000 in
theorem jm_mc262 : lw_tbl[1943]? = some (.code ⟨"OneWayTownModel", "isWhole", "(I)Z"⟩ prog_14_method_77_code 4 (some .boolean)) := by rfl
set_option maxRecDepth 100000 in
theorem jm_mc263 : lw_tbl[1947]? = some (.code ⟨"OneWayTownModel", "areSingle", "(I)Z"⟩ prog_14_method_78_code 4 (some .boolean)) := by rfl
set_option maxRecDepth 100000 in
theorem jm_mc264 : lw_tbl[1951]? = some (.code ⟨"OneWayTownModel", "news", "(I)I"⟩ prog_14_method_83_code 2 (some .int)) := by rfl
set_option maxRecDepth 100000 in
theorem jm_mc265 : lw_tbl[1955]? = some (.code ⟨"OneWayTownModel", "newsFrom", "(IZ)I"⟩ prog_14_method_82_code 9 (some .int)) := by rfl
set_option maxRecDepth 100000 in
theorem jm_mc266 : lw_tbl[1959]? = some (.code ⟨"OneWayTownModel", "layOrder", "(I)V"⟩ prog_14_method_80_code 5 none) := by rfl
set_option maxRecDepth 100000 in
theorem jm_mc267 : lw_tbl[1963]? = some (.code ⟨"OneWayTownModel", "lengthOf", "(II)I"⟩ prog_14_method_81_code 3 (some .int)) := by rfl
set_option maxRecDepth 100000 in
theorem jm_mc268 : lw_tbl[1967]? = some (.code ⟨"OneWayTownModel", "tidings", "(I)I"⟩ prog_14_method_84_code 2 (some .int)) := by rfl
set_option maxRecDepth 100000 in
theorem jm_mc269 : lw_tbl[1971]? = some (.code ⟨"OneWayTownModel", "bestNews", "()I"⟩ prog_14_method_85_code 5 (some .int)) := by rfl
set_option maxRecDepth 100000 in
theorem jm_mc270 : lw_tbl[1975]? = some (.code ⟨"OneWayTownModel", "carts", "(I)I"⟩ prog_14_method_91_code 3 (some .int)) := by rfl
set_option maxRecDepth 100000 in
theorem jm_mc271 : lw_tbl[1979]? = some (.code ⟨"OneWayTownModel", "cartsBack", "()I"⟩ prog_14_method_89_code 8 (some .int)) := by rfl
set_option maxRecDepth 100000 in
theorem jm_mc272 : lw_tbl[1983]? = some (.code ⟨"OneWayTownModel", "stateOf", "([I)I"⟩ prog_14_method_87_code 4 (some .int)) := by rfl
set_option maxRecDepth 100000 in
theorem jm_mc273 : lw_tbl[1987]? = some (.code ⟨"OneWayTownModel", "place", "(II)I"⟩ prog_14_method_86_code 3 (some .int)) := by rfl
set_option maxRecDepth 100000 in
theorem jm_mc274 : lw_tbl[1991]? = some (.code ⟨"OneWayTownModel", "isTaken", "(II)Z"⟩ prog_14_method_88_code 4 (some .boolean)) := by rfl
set_option maxRecDepth 100000 in
theorem jm_mc275 : lw_tbl[1995]? = some (.code ⟨"OneWayTownModel", "layFirst", "(I)I"⟩ prog_14_method_90_code 5 (some .int)) := by rfl
set_option maxRecDepth 100000 in
theorem jm_mc276 : lw_tbl[1999]? = some (.code ⟨"OneWayTownModel", "alike", "(IZ)I"⟩ prog_14_method_98_code 6 (some .int)) := by rfl
set_option maxRecDepth 100000 in
theorem jm_mc277 : lw_tbl[2003]? = some (.code ⟨"OneWayTownModel", "markOf", "(Z)I"⟩ prog_14_method_97_code 5 (some .int)) := by rfl
set_option maxRecDepth 100000 in
theorem jm_mc278 : lw_tbl[2007]? = some (.code ⟨"OneWayTownModel", "layMiddle", "()V"⟩ prog_14_method_92_code 5 none) := by rfl
set_option maxRecDepth 100000 in
theorem jm_mc279 : lw_tbl[2011]? = some (.code ⟨"OneWayTownModel", "fold", "(IIZ)I"⟩ prog_14_method_94_code 10 (some .int)) := by rfl
set_option maxRecDepth 100000 in
theorem jm_mc280 : lw_tbl[2015]? = some (.code ⟨"OneWayTownModel", "isCutOff", "(III)Z"⟩ prog_14_method_95_code 5 (some .boolean)) := by rfl
set_option maxRecDepth 100000 in
theorem jm_mc281 : lw_tbl[2019]? = some (.code ⟨"OneWayTownModel", "takeTurns", "(I)V"⟩ prog_14_method_96_code 4 none) := by rfl
set_option maxRecDepth 100000 in
theorem jm_mc282 : lw_tbl[2023]? = some (.code ⟨"OneWayTownModel", "partNumber", "(I)I"⟩ prog_14_method_93_code 5 (some .int)) := by rfl
set_option maxRecDepth 100000 in
theorem jm_mc283 : lw_tbl[2028]? = some (.code ⟨"OneWayTownModel", "selves", "(Z)J"⟩ prog_14_method_99_code 2 (some .long)) := by rfl
set_option maxRecDepth 100000 in
theorem jm_mc284 : lw_tbl[2032]? = some (.code ⟨"OneWayTownModel", "unlike", "(I)I"⟩ prog_14_method_101_code 5 (some .int)) := by rfl
set_option maxRecDepth 100000 in
theorem jm_mc285 : lw_tbl[2036]? = some (.code ⟨"OneWayTownModel", "layRooted", "()V"⟩ prog_14_method_100_code 8 none) := by rfl
set_option maxRecDepth 100000 in
theorem jm_mc286 : lw_tbl[2040]? = some (.code ⟨"OneWayTownModel", "marks", "()I"⟩ prog_14_method_103_code 1 (some .int)) := by rfl
set_option maxRecDepth 100000 in
theorem jm_mc287 : lw_tbl[2044]? = some (.code ⟨"OneWayTownModel", "layMarks", "()V"⟩ prog_14_method_102_code 5 none) := by rfl
set_option maxRecDepth 100000 in
theorem jm_mc288 : lw_tbl[2048]? = some (.code ⟨"OneWayTownModel", "grown", "(IJ)Z"⟩ prog_14_method_107_code 5 (some .boolean)) := by rfl
set_option maxRecDepth 100000 in
theorem jm_mc289 : lw_tbl[2053]? = some (.code ⟨"OneWayTownModel", "growsFrom", "(I)V"⟩ prog_14_method_104_code 4 none) := by rfl
set_option maxRecDepth 100000 in
theorem jm_mc290 : lw_tbl[2057]? = some (.code ⟨"OneWayTownModel", "joins", "(II)V"⟩ prog_14_method_105_code 3 none) := by rfl
set_option maxRecDepth 100000 in
theorem jm_mc291 : lw_tbl[2061]? = some (.code ⟨"OneWayTownModel", "hangAll", "(I)V"⟩ prog_14_method_106_code 5 none) := by rfl
set_option maxRecDepth 100000 in
theorem jm_mc292 : lw_tbl[2065]? = some (.code ⟨"OneWayTownModel", "tried", "(II)I"⟩ prog_14_method_113_code 8 (some .int)) := by rfl
set_option maxRecDepth 100000 in
theorem jm_mc293 : lw_tbl[2069]? = some (.code ⟨"OneWayTownModel", "isSo", "(I)Z"⟩ prog_14_method_112_code 2 (some .boolean)) := by rfl
set_option maxRecDepth 100000 in
theorem jm_mc294 : lw_tbl[2073]? = some (.code ⟨"OneWayTownModel", "isSoByFar", "()Z"⟩ prog_14_method_108_code 6 (some .boolean)) := by rfl
set_option maxRecDepth 100000 in
theorem jm_mc295 : lw_tbl[2077]? = some (.code ⟨"OneWayTownModel", "isSoByFour", "()Z"⟩ prog_14_method_110_code 5 (some .boolean)) := by rfl
set_option maxRecDepth 100000 in
theorem jm_mc296 : lw_tbl[2080]? = some (.code ⟨"OneWayTownModel", "isFourSo", "(III)Z"⟩ prog_14_method_109_code 3 (some .boolean)) := by rfl
set_option maxRecDepth 100000 in
theorem jm_mc297 : lw_tbl[2084]? = some (.code ⟨"OneWayTownModel", "byEnds", "()I"⟩ prog_14_method_111_code 4 (some .int)) := by rfl
set_option maxRecDepth 100000 in
theorem jm_mc298 : lw_tbl[2088]? = some (.code ⟨"OneWayTownModel", "joined", "(II)I"⟩ prog_14_method_115_code 8 (some .int)) := by rfl
set_option maxRecDepth 100000 in
theorem jm_mc299 : lw_tbl[2092]? = some (.code ⟨"OneWayTownModel", "longestBy", "(III)I"⟩ prog_14_method_114_code 8 (some .int)) := by rfl
theorem jm_mc_5 : ∀ q ∈ jm_ms_5, Cond.code q.1 q.2.1 q.2.2.1 q.2.2.2.1 ∈ lw_tbl := List.forall_mem_cons.mpr ⟨List.mem_of_getElem? jm_mc240, List.forall_mem_cons.mpr ⟨List.mem_of_getElem? jm_mc241, List.forall_mem_cons.mpr ⟨List.mem_of_getElem? jm_mc242, List.forall_mem_cons.mpr ⟨List.mem_of_getElem? jm_mc243, List.forall_mem_cons.mpr ⟨List.mem_of_getElem? jm_mc244, List.forall_mem_cons.mpr ⟨List.mem_of_getElem? jm_mc245, List.forall_mem_cons.mpr ⟨List.mem_of_getElem? jm_mc246, List.forall_mem_cons.mpr ⟨List.mem_of_getElem? jm_mc247, List.forall_mem_cons.mpr ⟨List.mem_of_getElem? jm_mc248, List.forall_mem_cons.mpr ⟨List.mem_of_getElem? jm_mc249, List.forall_mem_cons.mpr ⟨List.mem_of_getElem? jm_mc250, List.forall_mem_cons.mpr ⟨List.mem_of_getElem? jm_mc251, List.forall_mem_cons.mpr ⟨List.mem_of_getElem? jm_mc252, List.forall_mem_cons.mpr ⟨List.mem_of_getElem? jm_mc253, List.forall_mem_cons.mpr ⟨List.mem_of_getElem? jm_mc254, List.forall_mem_cons.mpr ⟨List.mem_of_getElem? jm_mc255, List.forall_mem_cons.mpr ⟨List.mem_of_getElem? jm_mc256, List.forall_mem_cons.mpr ⟨List.mem_of_getElem? jm_mc257, List.forall_mem_cons.mpr ⟨List.mem_of_getElem? jm_mc258, List.forall_mem_cons.mpr ⟨List.mem_of_getElem? jm_mc259, List.forall_mem_cons.mpr ⟨List.mem_of_getElem? jm_mc260, List.forall_mem_cons.mpr ⟨List.mem_of_getElem? jm_mc261, List.forall_mem_cons.mpr ⟨List.mem_of_getElem? jm_mc262, List.forall_mem_cons.mpr ⟨List.mem_of_getElem? jm_mc263, List.forall_mem_cons.mpr ⟨List.mem_of_getElem? jm_mc264, List.forall_mem_cons.mpr ⟨List.mem_of_getElem? jm_mc265, List.forall_mem_cons.mpr ⟨List.mem_of_getElem? jm_mc266, List.forall_mem_cons.mpr ⟨List.mem_of_getElem? jm_mc267, List.forall_mem_cons.mpr ⟨List.mem_of_getElem? jm_mc268, List.forall_mem_cons.mpr ⟨List.mem_of_getElem? jm_mc269, List.forall_mem_cons.mpr ⟨List.mem_of_getElem? jm_mc270, List.forall_mem_cons.mpr ⟨List.mem_of_getElem? jm_mc271, List.forall_mem_cons.mpr ⟨List.mem_of_getElem? jm_mc272, List.forall_mem_cons.mpr ⟨List.mem_of_getElem? jm_mc273, List.forall_mem_cons.mpr ⟨List.mem_of_getElem? jm_mc274, List.forall_mem_cons.mpr ⟨List.mem_of_getElem? jm_mc275, List.forall_mem_cons.mpr ⟨List.mem_of_getElem? jm_mc276, List.forall_mem_cons.mpr ⟨List.mem_of_getElem? jm_mc277, List.forall_mem_cons.mpr ⟨List.mem_of_getElem? jm_mc278, List.forall_mem_cons.mpr ⟨List.mem_of_getElem? jm_mc279, List.forall_mem_cons.mpr ⟨List.mem_of_getElem? jm_mc280, List.forall_mem_cons.mpr ⟨List.mem_of_getElem? jm_mc281, List.forall_mem_cons.mpr ⟨List.mem_of_getElem? jm_mc282, List.forall_mem_cons.mpr ⟨List.mem_of_getElem? jm_mc283, List.forall_mem_cons.mpr ⟨List.mem_of_getElem? jm_mc284, List.forall_mem_cons.mpr ⟨List.mem_of_getElem? jm_mc285, List.forall_mem_cons.mpr ⟨List.mem_of_getElem? jm_mc286, List.forall_mem_cons.mpr ⟨List.mem_of_getElem? jm_mc287, List.forall_mem_cons.mpr ⟨List.mem_of_getElem? jm_mc288, List.forall_mem_cons.mpr ⟨List.mem_of_getElem? jm_mc289, List.forall_mem_cons.mpr ⟨List.mem_of_getElem? jm_mc290, List.forall_mem_cons.mpr ⟨List.mem_of_getElem? jm_mc291, List.forall_mem_cons.mpr ⟨List.mem_of_getElem? jm_mc292, List.forall_mem_cons.mpr ⟨List.mem_of_getElem? jm_mc293, List.forall_mem_cons.mpr ⟨List.mem_of_getElem? jm_mc294, List.forall_mem_cons.mpr ⟨List.mem_of_getElem? jm_mc295, List.forall_mem_cons.mpr ⟨List.mem_of_getElem? jm_mc296, List.forall_mem_cons.mpr ⟨List.mem_of_getElem? jm_mc297, List.forall_mem_cons.mpr ⟨List.mem_of_getElem? jm_mc298, List.forall_mem_cons.mpr ⟨List.mem_of_getElem? jm_mc299, fun _ h => absurd h List.not_mem_nil⟩⟩⟩⟩⟩⟩⟩⟩⟩⟩⟩⟩⟩⟩⟩⟩⟩⟩⟩⟩⟩⟩⟩⟩⟩⟩⟩⟩⟩⟩⟩⟩⟩⟩⟩⟩⟩⟩⟩⟩⟩⟩⟩⟩⟩⟩⟩⟩⟩⟩⟩⟩⟩⟩⟩⟩⟩⟩⟩⟩
set_option maxRecDepth 100000 in
theorem jm_mc300 : lw_tbl[2096]? = some (.code ⟨"OneWayTownModel", "distance", "(III)I"⟩ prog_14_method_116_code 4 (some .int)) := by rfl
set_option maxRecDepth 100000 in
theorem jm_mc301 : lw_tbl[2100]? = some (.code ⟨"OneWayTownModel", "untell", "(I)Z"⟩ prog_14_method_117_code 2 (some .boolean)) := by rfl
set_option maxRecDepth 100000 in
theorem jm_mc302 : lw_tbl[2104]? = some (.code ⟨"OneWayTownModel", "later", "(I)I"⟩ prog_14_method_118_code 2 (some .int)) := by rfl
set_option maxRecDepth 100000 in
theorem jm_mc303 : lw_tbl[2109]? = some (.code ⟨"OneWayTownModel", "wrong", "(II)I"⟩ prog_14_method_125_code 3 (some .int)) := by rfl
set_option maxRecDepth 100000 in
theorem jm_mc304 : lw_tbl[2113]? = some (.code ⟨"OneWayTownModel", "layKnown", "(II)Z"⟩ prog_14_method_120_code 5 (some .boolean)) := by rfl
set_option maxRecDepth 100000 in
theorem jm_mc305 : lw_tbl[2117]? = some (.code ⟨"OneWayTownModel", "set", "(III)V"⟩ prog_14_method_119_code 4 none) := by rfl
set_option maxRecDepth 100000 in
theorem jm_mc306 : lw_tbl[2121]? = some (.code ⟨"OneWayTownModel", "wrongOf", "(I)I"⟩ prog_14_method_122_code 7 (some .int)) := by rfl
set_option maxRecDepth 100000 in
theorem jm_mc307 : lw_tbl[2124]? = some (.code ⟨"OneWayTownModel", "nextDoor", "(II)I"⟩ prog_14_method_123_code 3 (some .int)) := by rfl
set_option maxRecDepth 100000 in
theorem jm_mc308 : lw_tbl[2128]? = some (.code ⟨"OneWayTownModel", "isThreeSo", "(III)Z"⟩ prog_14_method_121_code 7 (some .boolean)) := by rfl
set_option maxRecDepth 100000 in
theorem jm_mc309 : lw_tbl[2132]? = some (.code ⟨"OneWayTownModel", "areDoorsSo", "(IIII)Z"⟩ prog_14_method_124_code 5 (some .boolean)) := by rfl
set_option maxRecDepth 100000 in
theorem jm_mc310 : lw_tbl[2136]? = some (.code ⟨"OneWayTownModel", "mended", "(III)I"⟩ prog_14_method_127_code 7 (some .int)) := by rfl
set_option maxRecDepth 100000 in
theorem jm_mc311 : lw_tbl[2140]? = some (.code ⟨"OneWayTownModel", "mendOf", "(III)I"⟩ prog_14_method_126_code 7 (some .int)) := by rfl
set_option maxRecDepth 100000 in
theorem jm_mc312 : lw_tbl[2144]? = some (.code ⟨"OneWayTownModel", "image", "(I)I"⟩ prog_14_method_128_code 3 (some .int)) := by rfl
set_option maxRecDepth 100000 in
theorem jm_mc313 : lw_tbl[2148]? = some (.code ⟨"OneWayTownModel", "back", "(I)I"⟩ prog_14_method_129_code 3 (some .int)) := by rfl
set_option maxRecDepth 100000 in
theorem jm_mc314 : lw_tbl[2152]? = some (.code ⟨"OneWayTownModel", "about", "(I)I"⟩ prog_14_method_130_code 2 (some .int)) := by rfl
set_option maxRecDepth 100000 in
theorem jm_mc315 : lw_tbl[2156]? = some (.code ⟨"OneWayTownModel", "feed", "(IIIII)I"⟩ prog_14_method_131_code 8 (some .int)) := by rfl
set_option maxRecDepth 100000 in
theorem jm_mc316 : lw_tbl[2160]? = some (.code ⟨"OneWayTownModel", "end", "(I)I"⟩ prog_14_method_132_code 2 (some .int)) := by rfl
set_option maxRecDepth 100000 in
theorem jm_mc317 : lw_tbl[1306]? = some (.code ⟨"java/lang/Integer", "bitCount", "(I)I"⟩ prog_15_method_49_code 1 (some .int)) := by rfl
set_option maxRecDepth 100000 in
theorem jm_mc318 : lw_tbl[1315]? = some (.code ⟨"java/lang/Integer", "numberOfTrailingZeros", "(I)I"⟩ prog_15_method_48_code 2 (some .int)) := by rfl
theorem jm_mc_6 : ∀ q ∈ jm_ms_6, Cond.code q.1 q.2.1 q.2.2.1 q.2.2.2.1 ∈ lw_tbl := List.forall_mem_cons.mpr ⟨List.mem_of_getElem? jm_mc300, List.forall_mem_cons.mpr ⟨List.mem_of_getElem? jm_mc301, List.forall_mem_cons.mpr ⟨List.mem_of_getElem? jm_mc302, List.forall_mem_cons.mpr ⟨List.mem_of_getElem? jm_mc303, List.forall_mem_cons.mpr ⟨List.mem_of_getElem? jm_mc304, List.forall_mem_cons.mpr ⟨List.mem_of_getElem? jm_mc305, List.forall_mem_cons.mpr ⟨List.mem_of_getElem? jm_mc306, List.forall_mem_cons.mpr ⟨List.mem_of_getElem? jm_mc307, List.forall_mem_cons.mpr ⟨List.mem_of_getElem? jm_mc308, List.forall_mem_cons.mpr ⟨List.mem_of_getElem? jm_mc309, List.forall_mem_cons.mpr ⟨List.mem_of_getElem? jm_mc310, List.forall_mem_cons.mpr ⟨List.mem_of_getElem? jm_mc311, List.forall_mem_cons.mpr ⟨List.mem_of_getElem? jm_mc312, List.forall_mem_cons.mpr ⟨List.mem_of_getElem? jm_mc313, List.forall_mem_cons.mpr ⟨List.mem_of_getElem? jm_mc314, List.forall_mem_cons.mpr ⟨List.mem_of_getElem? jm_mc315, List.forall_mem_cons.mpr ⟨List.mem_of_getElem? jm_mc316, List.forall_mem_cons.mpr ⟨List.mem_of_getElem? jm_mc317, List.forall_mem_cons.mpr ⟨List.mem_of_getElem? jm_mc318, fun _ h => absurd h List.not_mem_nil⟩⟩⟩⟩⟩⟩⟩⟩⟩⟩⟩⟩⟩⟩⟩⟩⟩⟩⟩
theorem jm_mc : ∀ q ∈ jm_ms, Cond.code q.1 q.2.1 q.2.2.1 q.2.2.2.1 ∈ lw_tbl := by
  unfold jm_ms
  exact List.forall_mem_append.mpr ⟨jm_mc_1, List.forall_mem_append.mpr ⟨jm_mc_2, List.forall_mem_append.mpr ⟨jm_mc_3, List.forall_mem_append.mpr ⟨jm_mc_4, List.forall_mem_append.mpr ⟨jm_mc_5, jm_mc_6⟩⟩⟩⟩⟩
def jm_ln_1 : List (Nat × Nat × Nat × Nat × Nat) := [(45074, 2, 60, 213, 0), (45090, 2, 20, 305, 0), (45099, 2, 0, 348, 0), (45106, 2, 119, 372, 0), (45113, 2, 103, 414, 0), (45120, 2, 74, 428, 0), (45129, 2, 33, 471, 0), (16414, 2, 119, 497, 0), (16423, 2, 74, 499, 0), (45164, 0, 94, 621, 623), (45168, 0, 61, 633, 635), (20520, 0, 108, 637, 639), (20533, 0, 95, 641, 643), (28694, 0, 96, 645, 647), (28703, 0, 97, 649, 0), (28707, 0, 98, 653, 1), (28710, 0, 99, 657, 2), (28729, 0, 100, 662, 3), (28714, 0, 101, 720, 4), (28717, 0, 102, 724, 5), (20544, 0, 62, 728, 6), (20557, 0, 96, 732, 647), (20564, 0, 63, 733, 7), (20548, 0, 64, 737, 8), (20595, 0, 65, 741, 9), (20591, 1, 66, 745, 0), (20568, 0, 67, 748, 10), (20572, 0, 68, 752, 11), (20601, 0, 69, 756, 12), (20576, 0, 70, 760, 13), (20580, 0, 109, 764, 766), (20551, 0, 71, 768, 14), (20584, 0, 72, 772, 15), (20554, 0, 73, 776, 16), (45175, 0, 110, 780, 782), (45187, 0, 21, 787, 789), (8241, 0, 22, 794, 796), (45191, 0, 1, 798, 800), (23, 0, 2, 802, 17), (27, 0, 110, 806, 782), (45200, 0, 141, 807, 18), (45408, 0, 120, 811, 813), (40993, 0, 121, 815, 19), (45411, 0, 22, 819, 796), (45210, 0, 111, 828, 830), (45223, 0, 112, 832, 834), (45227, 0, 122, 840, 842), (41008, 0, 123, 844, 20), (41012, 0, 113, 848, 850), (45235, 0, 124, 856, 858), (45238, 0, 125, 867, 869), (41027, 0, 126, 871, 873), (41020, 0, 124, 875, 858), (45242, 0, 127, 876, 878), (45245, 0, 128, 884, 886), (41031, 0, 129, 888, 21), (41034, 0, 130, 892, 22), (41040, 0, 131, 896, 898), (41044, 0, 132, 900, 23), (45249, 0, 114, 908, 910)]
def jm_ln_2 : List (Nat × Nat × Nat × Nat × Nat) := [(45252, 0, 131, 916, 898), (45256, 0, 133, 921, 923), (41047, 0, 134, 925, 24), (41062, 0, 115, 929, 931), (36898, 0, 111, 933, 830), (41050, 0, 135, 934, 25), (45268, 0, 109, 942, 766), (45271, 0, 152, 943, 26), (45278, 0, 3, 947, 949), (45274, 0, 115, 955, 931), (45281, 0, 116, 964, 966), (36902, 0, 117, 968, 27), (36915, 0, 112, 972, 834), (36905, 0, 109, 973, 766), (45284, 0, 23, 979, 981), (45287, 0, 44, 983, 985), (45291, 0, 45, 988, 990), (16454, 0, 46, 992, 28), (16441, 0, 47, 996, 29), (16458, 0, 48, 1000, 30), (16471, 1, 49, 1004, 0), (45295, 0, 4, 1011, 1013), (45299, 0, 5, 1019, 1021), (45302, 0, 161, 1031, 31), (45305, 0, 75, 1039, 1041), (24619, 0, 76, 1043, 1045), (24632, 0, 77, 1047, 32), (24629, 0, 78, 1051, 33), (24635, 0, 79, 1055, 34), (24643, 0, 80, 1059, 35), (24660, 0, 111, 1065, 830), (45308, 0, 81, 1070, 1072), (24667, 0, 82, 1074, 36), (24670, 0, 83, 1078, 37), (45311, 0, 84, 1088, 1090), (45314, 0, 85, 1096, 1098), (45317, 0, 166, 1100, 38), (45320, 0, 86, 1108, 1110), (24689, 0, 87, 1113, 39), (24693, 0, 88, 1117, 40), (45329, 0, 89, 1125, 1127), (24678, 0, 90, 1129, 41), (45332, 0, 91, 1133, 1135), (45335, 0, 92, 1137, 1139), (45338, 0, 104, 1145, 1147), (32788, 0, 105, 1149, 42), (32798, 0, 113, 1153, 850), (32802, 1, 106, 1154, 0), (45342, 0, 24, 1170, 1172), (8244, 0, 25, 1174, 43), (8254, 0, 26, 1178, 44), (8275, 0, 113, 1182, 850), (8257, 0, 27, 1183, 45), (8264, 0, 28, 1187, 46), (8268, 0, 29, 1191, 47), (45345, 0, 30, 1196, 1198), (8247, 0, 31, 1200, 48), (45348, 0, 32, 1204, 1206), (45351, 0, 34, 1212, 1214), (12320, 0, 35, 1216, 49)]
def jm_ln_3 : List (Nat × Nat × Nat × Nat × Nat) := [(12328, 0, 36, 1220, 50), (12342, 0, 112, 1224, 834), (12345, 0, 113, 1225, 850), (12338, 0, 37, 1226, 51), (45355, 0, 38, 1234, 1236), (12324, 0, 39, 1238, 52), (45359, 0, 40, 1246, 1248), (12349, 0, 41, 1250, 53), (12353, 0, 42, 1254, 54), (45362, 0, 50, 1262, 1264), (16437, 0, 112, 1266, 834), (16444, 0, 51, 1267, 55), (16448, 0, 113, 1271, 850), (45366, 0, 52, 1276, 1278), (16475, 0, 53, 1280, 56), (16478, 0, 45, 1284, 990), (16481, 0, 120, 1285, 813), (16484, 0, 54, 1286, 57), (16488, 0, 55, 1290, 58), (16502, 0, 136, 1294, 1296), (16505, 0, 124, 1299, 858), (16492, 0, 56, 1300, 59), (16508, 1, 317, 1304, 0), (16517, 1, 57, 1310, 0), (16521, 1, 318, 1313, 0), (16495, 0, 76, 1319, 1045), (16498, 0, 58, 1320, 60), (16532, 0, 59, 1324, 61), (45369, 0, 7, 1336, 1338), (4128, 1, 8, 1340, 0), (45371, 0, 9, 1347, 1349), (45374, 0, 10, 1355, 1357), (45377, 0, 11, 1364, 1366), (4140, 0, 12, 1368, 62), (45380, 0, 13, 1372, 1374), (4143, 0, 14, 1376, 63), (4147, 1, 317, 1380, 0), (4153, 0, 15, 1381, 64), (4162, 1, 318, 1385, 0), (4156, 1, 57, 1387, 0), (45383, 0, 16, 1392, 1394), (4171, 0, 17, 1396, 65), (4187, 0, 18, 1400, 66), (4191, 0, 19, 1408, 67), (45392, 0, 118, 1416, 1418), (49308, 0, 186, 1427, 68), (49311, 0, 187, 1431, 69), (49434, 0, 188, 1435, 70), (49441, 0, 189, 1439, 71), (49373, 0, 191, 1655, 72), (49340, 0, 192, 1659, 73), (49347, 1, 193, 1663, 0), (49355, 1, 194, 1666, 0), (49359, 1, 195, 1676, 0), (49369, 0, 196, 1679, 74), (49399, 0, 197, 1683, 75), (49408, 0, 198, 1687, 76), (49379, 0, 199, 1691, 77), (49376, 0, 200, 1695, 78), (49365, 0, 201, 1699, 79)]
def jm_ln_4 : List (Nat × Nat × Nat × Nat × Nat) := [(49411, 0, 202, 1703, 80), (49421, 0, 203, 1707, 81), (49417, 0, 204, 1711, 82), (49425, 0, 205, 1715, 83), (49382, 0, 206, 1719, 84), (49428, 0, 207, 1723, 85), (49430, 0, 208, 1727, 86), (49386, 0, 209, 1731, 87), (49414, 0, 210, 1735, 88), (49467, 0, 213, 1747, 89), (49437, 1, 214, 1751, 0), (49451, 0, 215, 1754, 90), (49461, 0, 216, 1758, 91), (49470, 0, 217, 1762, 92), (49473, 0, 218, 1766, 93), (49454, 0, 219, 1770, 94), (49476, 0, 222, 1782, 95), (49464, 0, 223, 1786, 96), (49458, 0, 224, 1790, 97), (49479, 0, 225, 1794, 98), (49483, 0, 227, 1802, 99), (49492, 0, 230, 1814, 100), (49489, 0, 231, 1818, 101), (49486, 0, 232, 1822, 102), (49495, 0, 234, 1830, 103), (49498, 0, 237, 1842, 104), (49501, 0, 238, 1846, 105), (49505, 0, 240, 1854, 106), (49508, 0, 243, 1866, 107), (49511, 0, 245, 1874, 108), (49526, 0, 248, 1886, 109), (49514, 0, 249, 1890, 110), (49517, 0, 250, 1894, 111), (49520, 1, 251, 1898, 0), (49523, 1, 252, 1901, 0), (49529, 0, 254, 1908, 112), (49532, 0, 255, 1912, 113), (49535, 0, 258, 1924, 114), (49538, 0, 260, 1932, 115), (49541, 0, 262, 1940, 116), (49544, 0, 263, 1944, 117), (49553, 0, 265, 1952, 118), (49547, 0, 266, 1956, 119), (49550, 0, 267, 1960, 120), (49576, 0, 271, 1976, 121), (49560, 0, 272, 1980, 122), (49557, 0, 273, 1984, 123), (49564, 0, 274, 1988, 124), (49567, 0, 275, 1992, 125), (49612, 0, 277, 2000, 126), (49603, 0, 278, 2004, 127), (49606, 0, 279, 2008, 128), (49591, 0, 280, 2012, 129), (49594, 0, 281, 2016, 130), (49597, 0, 282, 2020, 131), (49616, 0, 285, 2033, 132), (49619, 0, 287, 2041, 133), (49630, 0, 289, 2050, 134), (49622, 0, 290, 2054, 135), (49625, 0, 291, 2058, 136)]
def jm_ln_5 : List (Nat × Nat × Nat × Nat × Nat) := [(49645, 0, 293, 2066, 137), (49636, 0, 294, 2070, 138), (49639, 0, 295, 2074, 139), (49633, 1, 296, 2078, 0), (49642, 0, 297, 2081, 140), (49648, 0, 299, 2089, 141), (49669, 0, 304, 2110, 142), (49656, 0, 305, 2114, 143), (49672, 0, 306, 2118, 144), (49659, 1, 307, 2122, 0), (49662, 0, 308, 2125, 145), (49665, 0, 309, 2129, 146), (49675, 0, 311, 2137, 147), (45065, 3, 93, 179, 0), (20491, 3, 107, 219, 0), (45083, 3, 107, 302, 0), (15, 3, 107, 354, 0), (45136, 3, 43, 490, 0), (16407, 3, 107, 495, 0), (45143, 3, 6, 524, 0)]
def jm_ln : List (Nat × Nat × Nat × Nat × Nat) := jm_ln_1 ++ (jm_ln_2 ++ (jm_ln_3 ++ (jm_ln_4 ++ (jm_ln_5))))
def jm_lnq (q : Nat × Nat × Nat × Nat × Nat) : Bool := match jm_ms[q.2.2.1]? with
  | some y => (if q.2.1 = 3 then decide (lw_tbl[q.2.2.2.1]? = some (.methodLinkNest (jm_cn (q.1 / 4096)) (q.1 % 4096) y.1 "OneWayTown")) else decide (lw_tbl[q.2.2.2.1]? = some (.methodLink (jm_cn (q.1 / 4096)) (q.1 % 4096) y.1))) &&
    (if q.2.1 = 0 then decide (lw_tbl[q.2.2.2.2]? = some (.selects y.1.cls y.1 y.1)) && decide (y.2.2.2.2.2 = 0) else if q.2.1 = 1 then decide (y.2.2.2.2.2 = 1) else decide (y.1.name = "<init>") && decide (y.2.2.2.2.2 = 0) && decide (y.2.2.2.1 = none))
  | none => false
set_option maxRecDepth 100000 in
theorem jm_ln_all_1 : ((jm_ln.drop 0).take 60).all jm_lnq = true := by decide +kernel
set_option maxRecDepth 100000 in
theorem jm_ln_all_2 : ((jm_ln.drop 60).take 60).all jm_lnq = true := by decide +kernel
set_option maxRecDepth 100000 in
theorem jm_ln_all_3 : ((jm_ln.drop 120).take 60).all jm_lnq = true := by decide +kernel
set_option maxRecDepth 100000 in
theorem jm_ln_all_4 : ((jm_ln.drop 180).take 60).all jm_lnq = true := by decide +kernel
set_option maxRecDepth 100000 in
theorem jm_ln_all_5 : ((jm_ln.drop 240).take 60).all jm_lnq = true := by decide +kernel
