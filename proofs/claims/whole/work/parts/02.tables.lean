/-! THE TABLES: by program out of the claim's own names and words. A method's number: 100 * its class + its place. -/
def tbF : Nat → List (Nat × (Nat × Nat × Bool) × Nat) := fun own => match own with
  | 0 => [(12, (0, 1, false), 668), (18, (0, 0, false), 666), (22, (0, 3, false), 675), (26, (2, 2, true), 765), (31, (2, 3, true), 766), (34, (0, 2, false), 671)]
  | 1 => [(11, (1, 0, false), 272), (18, (1, 1, false), 275), (22, (1, 2, false), 277), (26, (1, 3, false), 279), (30, (1, 4, false), 281), (36, (4, 0, true), 209), (45, (4, 2, true), 216), (52, (4, 4, true), 222)]
  | 3 => [(11, (3, 0, false), 302), (20, (3, 2, false), 307), (27, (3, 3, false), 309), (31, (3, 4, false), 310), (35, (3, 5, false), 312), (40, (3, 6, false), 313), (47, (3, 8, false), 316), (51, (3, 10, false), 319), (58, (3, 1, false), 305), (62, (3, 7, false), 314), (71, (1, 6, true), 286), (74, (3, 12, false), 323), (81, (3, 11, false), 321), (119, (1, 4, true), 282), (130, (4, 1, true), 212), (133, (6, 1, true), 148), (147, (1, 1, true), 276), (160, (3, 15, false), 329), (163, (1, 2, true), 278), (174, (3, 14, false), 327), (177, (1, 0, true), 273), (181, (3, 9, false), 318), (187, (4, 11, true), 238), (190, (3, 13, false), 325), (193, (4, 3, true), 219), (196, (4, 5, true), 226), (199, (4, 6, true), 229), (202, (4, 4, true), 223), (289, (8, 1, true), 186), (312, (8, 3, true), 193), (332, (7, 1, true), 637), (335, (8, 2, true), 189), (339, (0, 2, true), 673), (342, (0, 1, true), 670)]
  | 4 => [(9, (4, 3, false), 217), (15, (4, 4, false), 220), (18, (4, 5, false), 224), (21, (4, 6, false), 227), (24, (4, 8, false), 233), (27, (4, 9, false), 234), (30, (4, 10, false), 235), (33, (4, 11, false), 236), (36, (4, 2, false), 213), (40, (4, 7, false), 230)]
  | 5 => [(7, (0, 3, true), 674), (13, (2, 1, true), 763), (25, (2, 2, true), 764), (29, (1, 6, true), 285), (34, (5, 0, false), 169), (38, (2, 4, true), 768), (41, (2, 0, true), 762), (45, (2, 3, true), 767), (48, (1, 5, true), 284)]
  | 6 => [(9, (6, 0, false), 145), (15, (6, 1, false), 147), (18, (6, 3, false), 151), (22, (6, 2, false), 150)]
  | 7 => [(9, (7, 0, false), 632), (21, (7, 1, false), 635), (24, (7, 2, false), 638), (28, (7, 3, false), 640), (43, (8, 0, true), 182), (46, (8, 3, true), 191), (50, (8, 1, true), 185)]
  | 8 => [(9, (8, 0, false), 181), (15, (8, 1, false), 184), (18, (8, 2, false), 187), (22, (8, 3, false), 190), (29, (0, 0, true), 667), (34, (7, 0, true), 633), (43, (0, 2, true), 672), (46, (7, 1, true), 636)]
  | 9 => [(9, (9, 0, false), 370), (15, (4, 0, true), 208), (29, (4, 2, true), 214), (43, (4, 3, true), 218), (49, (4, 4, true), 221), (52, (4, 5, true), 225), (55, (4, 7, true), 232), (62, (4, 11, true), 237), (71, (4, 6, true), 228), (74, (3, 0, true), 304)]
  | 10 => [(10, (10, 0, false), 376), (19, (10, 1, false), 377), (25, (10, 2, false), 378), (38, (3, 1, true), 306), (42, (3, 0, true), 303), (46, (4, 0, true), 210), (62, (4, 2, true), 215), (69, (4, 7, true), 231), (75, (3, 2, true), 308), (79, (6, 0, true), 146), (89, (4, 1, true), 211), (92, (3, 4, true), 311), (102, (3, 8, true), 317), (123, (8, 0, true), 183), (130, (8, 2, true), 188), (139, (0, 1, true), 669), (142, (8, 3, true), 192), (146, (7, 0, true), 634), (158, (7, 2, true), 639), (161, (6, 1, true), 149), (164, (3, 11, true), 322), (167, (3, 10, true), 320), (170, (6, 3, true), 152), (177, (3, 7, true), 315), (180, (1, 3, true), 280), (185, (1, 4, true), 283), (191, (1, 0, true), 274), (197, (3, 12, true), 324), (200, (3, 13, true), 326), (203, (3, 14, true), 328), (206, (3, 15, true), 330)]
  | 11 => [(7, (11, 1, false), 913), (13, (11, 2, false), 914), (16, (11, 3, false), 915), (19, (11, 4, false), 916), (22, (11, 5, false), 917), (25, (11, 6, false), 918), (28, (11, 7, false), 919), (31, (11, 9, false), 921), (34, (11, 11, false), 923), (37, (11, 12, false), 924), (40, (11, 13, false), 925), (43, (11, 14, false), 926), (46, (11, 18, false), 930), (49, (11, 19, false), 931), (52, (11, 20, false), 932), (55, (11, 21, false), 933), (58, (11, 22, false), 934), (61, (11, 24, false), 936), (64, (11, 25, false), 937), (67, (11, 26, false), 938), (70, (11, 27, false), 939), (73, (11, 30, false), 942), (76, (11, 31, false), 943), (79, (11, 32, false), 944), (82, (11, 33, false), 945), (85, (11, 34, false), 946), (88, (11, 35, false), 947), (92, (11, 36, false), 948), (95, (11, 39, false), 951), (98, (11, 40, false), 952), (101, (11, 43, false), 955), (104, (11, 38, false), 950), (108, (11, 0, false), 912), (115, (11, 8, false), 920), (131, (11, 10, false), 922), (147, (11, 15, false), 927), (150, (11, 16, false), 928), (157, (11, 37, false), 949), (160, (11, 41, false), 953), (163, (11, 17, false), 929), (174, (11, 29, false), 941), (180, (11, 44, false), 956), (186, (11, 42, false), 954), (189, (11, 45, false), 957), (192, (11, 46, false), 958), (195, (11, 47, false), 959), (201, (11, 48, false), 960), (213, (11, 23, false), 935), (216, (11, 28, false), 940)]
  | _ => []
def tbS : Nat → List (Nat × (Nat × Bool) × Nat) := fun own => match own with
  | 9 => [(46, (3, true), 455), (82, (2, true), 471)]
  | 10 => [(209, (2, false), 408), (212, (3, false), 410)]
  | _ => []
def tbM : Nat → List (Nat × (Nat × Bool) × Nat) := fun own => match own with
  | 0 => [(3, (9000, false), 663), (11, (800, true), 665)]
  | 1 => [(3, (9000, false), 268), (17, (800, true), 271), (33, (801, true), 537), (41, (805, true), 538), (48, (103, false), 570), (56, (102, false), 571)]
  | 2 => [(1, (9000, false), 761)]
  | 3 => [(3, (9000, false), 136), (19, (600, true), 141), (26, (500, true), 165), (46, (800, true), 177), (54, (400, true), 204), (55, (100, true), 265), (65, (9001, false), 539), (77, (601, true), 513), (84, (801, true), 517), (87, (9002, false), 518), (93, (308, false), 521), (97, (310, false), 546), (101, (313, false), 576), (104, (307, false), 585), (107, (303, false), 550), (111, (315, false), 589), (115, (311, false), 828), (122, (603, true), 525), (126, (101, true), 533), (136, (314, false), 542), (139, (504, true), 562), (143, (103, true), 554), (150, (309, false), 558), (153, (105, true), 566), (157, (805, true), 575), (167, (404, true), 832), (170, (312, false), 837), (184, (802, true), 594), (205, (102, true), 593), (209, (808, true), 595), (213, (318, false), 599), (217, (319, false), 603), (221, (320, false), 615), (225, (321, false), 654), (229, (322, false), 689), (233, (323, false), 715), (236, (324, false), 725), (240, (325, false), 728), (243, (326, false), 735), (247, (807, true), 738), (250, (806, true), 743), (253, (327, false), 744), (257, (328, false), 780), (260, (329, false), 788), (264, (330, false), 792), (267, (104, true), 797), (270, (331, false), 801), (273, (332, false), 809), (276, (333, false), 813), (279, (317, false), 825), (283, (811, true), 607), (286, (316, false), 805), (292, (604, true), 619), (297, (700, true), 625), (300, (804, true), 650), (306, (0, true), 660), (308, (803, true), 685), (316, (810, true), 692), (319, (703, true), 693), (322, (701, true), 702), (325, (704, true), 706), (329, (705, true), 718), (345, (1, true), 731), (348, (501, true), 748), (351, (502, true), 784), (354, (301, false), 796), (357, (1025, true), 808), (361, (3, true), 817), (364, (4, true), 821)]
  | 4 => [(3, (9000, false), 207), (43, (403, false), 836)]
  | 5 => [(1, (9000, false), 168), (19, (503, false), 752), (37, (200, true), 758)]
  | 6 => [(3, (9000, false), 144), (25, (602, false), 529)]
  | 7 => [(3, (9000, false), 628), (15, (9001, false), 629), (33, (811, true), 697), (39, (806, true), 698), (53, (702, false), 710), (57, (802, true), 722), (61, (801, true), 723), (64, (804, true), 724)]
  | 8 => [(3, (9000, false), 180), (26, (801, false), 496), (39, (806, false), 742), (49, (810, false), 611)]
  | 9 => [(3, (9000, false), 369), (21, (905, false), 443), (25, (902, false), 447), (32, (906, false), 464), (36, (903, false), 451), (40, (904, false), 456), (58, (403, true), 460), (65, (301, true), 467), (78, (907, false), 468)]
  | 10 => [(1, (9000, false), 128), (9, (300, true), 133), (18, (900, true), 366), (29, (800, true), 375), (30, (1025, false), 390), (34, (302, true), 393), (51, (301, true), 401), (55, (1026, false), 405), (59, (1027, false), 412), (65, (401, true), 415), (72, (402, true), 423), (85, (901, true), 439), (95, (801, true), 488), (98, (802, true), 492), (106, (805, true), 497), (110, (1024, false), 505), (114, (305, true), 509), (119, (306, true), 581), (126, (809, true), 845), (134, (2, true), 849), (151, (701, true), 857), (154, (705, true), 858), (173, (303, true), 887), (188, (304, true), 888), (194, (313, true), 900)]
  | 11 => [(1, (9000, false), 910), (111, (1101, false), 1064), (119, (1104, false), 1078), (123, (1102, false), 1071), (127, (1105, false), 1075), (134, (1112, false), 1101), (137, (1110, false), 1105), (141, (1113, false), 1097), (144, (1111, false), 1109), (153, (1119, false), 1233), (166, (1122, false), 1141), (170, (1123, false), 1145), (177, (1124, false), 1153), (183, (1126, false), 1149), (198, (1130, false), 1193), (204, (1132, false), 1261), (208, (1131, false), 1181), (211, (1129, false), 1173), (220, (1137, false), 1209), (223, (1125, false), 1137), (226, (1134, false), 1185), (229, (1147, false), 1177), (232, (1148, false), 1189), (235, (1135, false), 1197), (238, (1136, false), 1201), (241, (1138, false), 1205), (244, (1139, false), 1213), (247, (1149, false), 1217), (250, (1140, false), 1221), (253, (1141, false), 1225), (256, (1121, false), 1229), (259, (1142, false), 1237), (263, (1143, false), 1241), (266, (1144, false), 1245), (269, (1145, false), 1249), (272, (1146, false), 1253), (275, (1133, false), 1257), (278, (1127, false), 1161), (281, (1150, false), 1169), (284, (1128, false), 1265), (287, (1151, false), 1157), (290, (1153, false), 1133), (293, (1152, false), 1165), (296, (1120, false), 1273)]
  | 12 => [(9, (1000, false), 125), (12, (1100, false), 907), (13, (1001, false), 386), (17, (1103, false), 1060), (18, (1002, false), 397), (22, (1106, false), 1067), (23, (1003, false), 419), (26, (1107, false), 1081), (27, (1004, false), 427), (30, (1108, false), 1085), (31, (1005, false), 431), (35, (1109, false), 1089), (36, (1006, false), 435), (39, (1114, false), 1093), (40, (1007, false), 472), (43, (1115, false), 1113), (44, (1008, false), 476), (47, (1116, false), 1117), (48, (1009, false), 480), (51, (1117, false), 1121), (52, (1010, false), 484), (56, (1118, false), 1125), (57, (1011, false), 501), (60, (1154, false), 1129), (61, (1012, false), 841), (64, (1155, false), 1269), (65, (1013, false), 853), (68, (1156, false), 1277), (69, (1014, false), 859), (72, (1157, false), 1281), (73, (1015, false), 863), (76, (1158, false), 1285), (77, (1016, false), 867), (80, (1159, false), 1289), (81, (1017, false), 871), (85, (1160, false), 1293), (86, (1018, false), 875), (89, (1161, false), 1297), (90, (1019, false), 879), (93, (1162, false), 1301), (94, (1020, false), 883), (97, (1163, false), 1305), (98, (1021, false), 892), (101, (1164, false), 1309), (102, (1022, false), 896), (105, (1165, false), 1313), (106, (1023, false), 901), (109, (1166, false), 1317)]
  | _ => []
def tbK : Nat → List (Nat × Nat × Nat) := fun own => match own with
  | 0 => [(9, 8, 664)]
  | 1 => [(9, 8, 269)]
  | 3 => [(9, 4, 137), (17, 6, 139), (24, 5, 163), (38, 1, 173), (44, 8, 175), (295, 7, 623), (304, 0, 658)]
  | 5 => [(14, 2, 756)]
  | 7 => [(10, 7, 630)]
  | 10 => [(7, 3, 131), (16, 9, 364), (23, 8, 374)]
  | 12 => [(7, 10, 123), (10, 11, 905)]
  | _ => []
def tbC : Nat → List (Nat × Int32 × Nat) := fun own => match own with
  | 7 => [(32, 65535, 714)]
  | 10 => [(118, 1000000, 580)]
  | 11 => [(91, 72000, 911), (219, 65535, 1212)]
  | _ => []
def lkF (own idx : Nat) : Option (Nat × Nat × Bool) := ((tbF own).find? (fun e => e.1 == idx)).map (fun e => e.2.1)
def lkS (own idx : Nat) : Option (Nat × Bool) := ((tbS own).find? (fun e => e.1 == idx)).map (fun e => e.2.1)
def lkM (own idx : Nat) : Option (Nat × Bool) := ((tbM own).find? (fun e => e.1 == idx)).map (fun e => e.2.1)
def lkK (own idx : Nat) : Option (Nat) := ((tbK own).find? (fun e => e.1 == idx)).map (fun e => e.2.1)
def lkC (own idx : Nat) : Option (Int32) := ((tbC own).find? (fun e => e.1 == idx)).map (fun e => e.2.1)
def cname : Nat → String := fun c => match c with
  | 0 => RX0
  | 1 => RX1
  | 2 => RX2
  | 3 => RX3
  | 4 => RX4
  | 5 => RX5
  | 6 => RX6
  | 7 => RX7
  | 8 => RX8
  | 9 => RX9
  | 10 => RX10
  | 11 => RX11
  | _ => "MarkedStepsLaw"
def fnum : Nat → Nat := fun c => match c with
  | 0 => 4
  | 1 => 7
  | 2 => 5
  | 3 => 16
  | 4 => 12
  | 5 => 1
  | 6 => 4
  | 7 => 4
  | 8 => 4
  | 9 => 1
  | 10 => 3
  | 11 => 49
  | _ => 0
def ftab : Nat → u_T := fun c => match c with
  | 0 => TX0
  | 1 => TX1
  | 2 => TX2
  | 3 => TX3
  | 4 => TX4
  | 5 => TX5
  | 6 => TX6
  | 7 => TX7
  | 8 => TX8
  | 9 => TX9
  | 10 => TX10
  | _ => TX11
def fty : Nat → Nat → FieldType := fun c => match c with
  | 0 => tyX0
  | 1 => tyX1
  | 2 => tyX2
  | 3 => tyX3
  | 4 => tyX4
  | 5 => tyX5
  | 6 => tyX6
  | 7 => tyX7
  | 8 => tyX8
  | 9 => tyX9
  | 10 => tyX10
  | _ => tyX11
def ffin (c k : Nat) : Bool := (ftab c k).2.2.2
/-- classes of which there are arrays: class, place of the word -/
def tbO : List (Nat × Nat) := [(1, 174), (4, 138), (7, 631), (8, 270)]
def lkO (ci : Nat) : Bool := tbO.any (fun e => e.1 == ci)
abbrev MRow : Type := ByteArray × Nat × Nat × Nat × Option FieldType × Nat × Nat × Bool × MethodName × Nat × Nat × Nat
def tbY0 : List MRow := [
  (cX0_init, 2, 2, 2, none, 2, 60, false, yX0_init, 662, 661, 0),
  (cX0_otherMark, 1, 0, 1, some .int, 1, 40, false, yX0_otherMark, 734, 733, 48),
  (cX0_timesHeld, 3, 0, 1, some .int, 1, 40, false, yX0_timesHeld, 852, 851, 67),
  (cX0_bodiesOfWeight, 1, 0, 1, some .int, 1, 40, false, yX0_bodiesOfWeight, 820, 819, 61),
  (cX0_weight, 3, 0, 1, some .int, 1, 40, false, yX0_weight, 824, 823, 62)]
def tbY1 : List MRow := [
  (cX1_init, 3, 2, 2, none, 2, 60, false, yX1_init, 267, 266, 0),
  (cX1_begin, 6, 0, 5, none, 2, 61, false, yX1_begin, 536, 535, 19),
  (cX1_named, 2, 0, 2, some (.object "MarkedSteps$Slot"), 1, 40, false, yX1_named, 574, 573, 27),
  (cX1_isBehindItsActs, 1, 0, 1, some .boolean, 1, 40, false, yX1_isBehindItsActs, 557, 556, 23),
  (cX1_give, 2, 0, 2, none, 2, 61, false, yX1_give, 800, 799, 57),
  (cX1_takeGiven, 2, 0, 2, none, 2, 61, false, yX1_takeGiven, 569, 568, 26)]
def tbY2 : List MRow := [
  (cX2_init, 1, 2, 1, none, 1, 40, false, yX2_init, 760, 759, 0)]
def tbY3 : List MRow := [
  (cX3_init, 2, 2, 1, none, 3, 82, false, yX3_init, 135, 134, 0),
  (cX3_lacksMember, 2, 0, 2, some .boolean, 1, 40, false, yX3_lacksMember, 404, 403, 1),
  (cX3_isWalked, 1, 0, 1, some .boolean, 1, 40, false, yX3_isWalked, 396, 395, 0),
  (cX3_top, 1, 0, 1, some (.object "MarkedSteps$Frame"), 1, 40, false, yX3_top, 553, 552, 22),
  (cX3_holdings, 3, 0, 1, some .int, 1, 40, false, yX3_holdings, 891, 890, 68),
  (cX3_begin, 4, 0, 4, some .int, 4, 110, false, yX3_begin, 512, 511, 14),
  (cX3_doActs, 4, 0, 2, some .int, 7, 183, false, yX3_doActs, 584, 583, 29),
  (cX3_doOneAct, 3, 0, 1, some .int, 6, 161, false, yX3_doOneAct, 588, 587, 30),
  (cX3_beginFrame, 5, 0, 4, some .boolean, 3, 86, false, yX3_beginFrame, 524, 523, 16),
  (cX3_endFrame, 2, 0, 1, none, 2, 63, false, yX3_endFrame, 561, 560, 24),
  (cX3_endFramesBehindTheirActs, 3, 0, 1, some .int, 3, 84, false, yX3_endFramesBehindTheirActs, 549, 548, 21),
  (cX3_goToHandler, 5, 0, 2, some .int, 4, 106, false, yX3_goToHandler, 831, 830, 63),
  (cX3_beginHandler, 4, 0, 4, some .int, 3, 83, false, yX3_beginHandler, 840, 839, 65),
  (cX3_stop, 2, 0, 1, some .int, 3, 84, false, yX3_stop, 579, 578, 28),
  (cX3_keepTrace, 2, 0, 2, none, 1, 40, false, yX3_keepTrace, 545, 544, 20),
  (cX3_perform, 9, 0, 2, some .int, 5, 133, false, yX3_perform, 592, 591, 31),
  (cX3_misfitAsNumbers, 3, 1, 2, some .int, 3, 80, false, yX3_misfitAsNumbers, 807, 806, 0),
  (cX3_reckon, 7, 1, 4, some .int, 4, 102, false, yX3_reckon, 827, 826, 0),
  (cX3_goTo, 3, 0, 3, some .int, 3, 83, false, yX3_goTo, 602, 601, 33),
  (cX3_branch, 5, 0, 4, some .int, 4, 105, false, yX3_branch, 606, 605, 34),
  (cX3_makeRow, 6, 0, 4, some .int, 3, 83, false, yX3_makeRow, 618, 617, 37),
  (cX3_makeCell, 3, 0, 3, some .int, 3, 83, false, yX3_makeCell, 657, 656, 40),
  (cX3_put, 5, 1, 3, some .int, 4, 101, false, yX3_put, 691, 690, 0),
  (cX3_get, 5, 1, 3, some .int, 4, 103, false, yX3_get, 717, 716, 0),
  (cX3_length, 3, 1, 2, some .int, 3, 81, false, yX3_length, 727, 726, 0),
  (cX3_field, 4, 1, 3, some .int, 3, 81, false, yX3_field, 730, 729, 0),
  (cX3_fill, 5, 1, 3, some .int, 3, 80, false, yX3_fill, 737, 736, 0),
  (cX3_enter, 4, 0, 3, some .int, 4, 106, false, yX3_enter, 747, 746, 50),
  (cX3_leave, 4, 0, 3, some .int, 2, 63, false, yX3_leave, 783, 782, 53),
  (cX3_throwOwn, 3, 0, 2, some .int, 3, 80, false, yX3_throwOwn, 791, 790, 55),
  (cX3_call, 4, 0, 4, some .int, 4, 110, false, yX3_call, 795, 794, 56),
  (cX3_note, 4, 0, 3, some .int, 4, 102, false, yX3_note, 804, 803, 58),
  (cX3_ask, 4, 0, 3, some .int, 3, 81, false, yX3_ask, 812, 811, 59),
  (cX3_weigh, 6, 0, 3, some .int, 3, 83, false, yX3_weigh, 816, 815, 60)]
def tbY4 : List MRow := [
  (cX4_init, 1, 2, 1, none, 1, 40, false, yX4_init, 206, 205, 0),
  (cX4_addAct, 5, 0, 5, some .int, 1, 40, false, yX4_addAct, 418, 417, 2),
  (cX4_addHandler, 5, 0, 5, some .int, 1, 40, false, yX4_addHandler, 426, 425, 3),
  (cX4_handlerHas, 3, 0, 3, some .boolean, 1, 40, false, yX4_handlerHas, 463, 462, 9),
  (cX4_firstHandlerOf, 4, 0, 3, some .int, 2, 62, false, yX4_firstHandlerOf, 835, 834, 64)]
def tbY5 : List MRow := [
  (cX5_init, 1, 2, 1, none, 1, 40, false, yX5_init, 167, 166, 0),
  (cX5_enter, 4, 0, 3, none, 3, 83, false, yX5_enter, 751, 750, 51),
  (cX5_leave, 4, 0, 3, some .boolean, 1, 40, false, yX5_leave, 787, 786, 54),
  (cX5_newHold, 4, 0, 3, some (.object "MarkedSteps$Hold"), 2, 60, false, yX5_newHold, 755, 754, 52),
  (cX5_leaveAll, 4, 0, 2, none, 1, 40, false, yX5_leaveAll, 565, 564, 25)]
def tbY6 : List MRow := [
  (cX6_init, 1, 2, 1, none, 1, 40, false, yX6_init, 143, 142, 0),
  (cX6_open, 3, 0, 2, none, 1, 40, false, yX6_open, 516, 515, 15),
  (cX6_takes, 3, 0, 2, some .boolean, 1, 40, true, yX6_takes, 532, 531, 18),
  (cX6_paysFor, 2, 0, 2, some .boolean, 2, 62, false, yX6_paysFor, 528, 527, 17),
  (cX6_paysForRow, 2, 0, 2, some .boolean, 2, 62, false, yX6_paysForRow, 622, 621, 38)]
def tbY7 : List MRow := [
  (cX7_init, 3, 2, 3, none, 1, 40, false, yX7_init, 627, 626, 0),
  (cX7_lacksCell, 2, 0, 2, some .boolean, 1, 40, false, yX7_lacksCell, 705, 704, 44),
  (cX7_narrowed, 2, 0, 2, some .int, 1, 40, false, yX7_narrowed, 713, 712, 46),
  (cX7_misfitInCell, 2, 0, 2, some .int, 3, 80, false, yX7_misfitInCell, 696, 695, 42),
  (cX7_copyFrom, 3, 0, 3, none, 2, 61, false, yX7_copyFrom, 709, 708, 45),
  (cX7_copyTo, 3, 0, 3, none, 3, 81, false, yX7_copyTo, 721, 720, 47)]
def tbY8 : List MRow := [
  (cX8_init, 1, 2, 1, none, 1, 40, false, yX8_init, 179, 178, 0),
  (cX8_becomeNothing, 1, 0, 1, none, 1, 40, false, yX8_becomeNothing, 491, 490, 10),
  (cX8_becomeNumber, 2, 0, 2, none, 2, 60, false, yX8_becomeNumber, 495, 494, 11),
  (cX8_becomeCell, 2, 0, 2, none, 2, 60, false, yX8_becomeCell, 688, 687, 41),
  (cX8_becomeRow, 2, 0, 2, none, 2, 60, false, yX8_becomeRow, 653, 652, 39),
  (cX8_copy, 2, 0, 2, none, 1, 40, false, yX8_copy, 500, 499, 12),
  (cX8_isNothing, 1, 0, 1, some .boolean, 1, 40, false, yX8_isNothing, 701, 700, 43),
  (cX8_isOf, 2, 0, 2, some .boolean, 2, 60, false, yX8_isOf, 741, 740, 49),
  (cX8_isSameAs, 2, 0, 2, some .boolean, 1, 40, false, yX8_isSameAs, 598, 597, 32),
  (cX8_measure, 1, 0, 1, some .int, 1, 40, false, yX8_measure, 848, 847, 66),
  (cX8_misfit, 1, 0, 1, some .int, 1, 40, false, yX8_misfit, 614, 613, 36),
  (cX8_misfitAsNumber, 1, 0, 1, some .int, 2, 60, false, yX8_misfitAsNumber, 610, 609, 35)]
def tbY9 : List MRow := [
  (cX9_init, 1, 2, 1, none, 1, 40, false, yX9_init, 368, 367, 0),
  (cX9_leastActThatLooksAtUnset, 5, 0, 3, some .int, 4, 111, false, yX9_leastActThatLooksAtUnset, 442, 441, 4),
  (cX9_passOver, 4, 0, 2, some .boolean, 3, 88, false, yX9_passOver, 450, 449, 6),
  (cX9_goOn, 5, 0, 3, some .boolean, 2, 64, false, yX9_goOn, 454, 453, 7),
  (cX9_goToHandlers, 5, 0, 3, some .boolean, 2, 64, false, yX9_goToHandlers, 459, 458, 8),
  (cX9_comeTo, 5, 0, 4, some .boolean, 1, 40, false, yX9_comeTo, 446, 445, 5),
  (cX9_lookedAt, 5, 1, 3, some .int, 2, 62, false, yX9_lookedAt, 466, 465, 0),
  (cX9_passedOn, 3, 1, 2, some .int, 1, 40, false, yX9_passedOn, 470, 469, 0)]
def tbY10 : List MRow := [
  (cX10_init, 2, 2, 1, none, 4, 103, false, yX10_init, 127, 126, 0),
  (cX10_member, 3, 0, 2, some .int, 2, 62, false, yX10_member, 389, 387, 388),
  (cX10_act, 7, 0, 6, some .int, 3, 86, false, yX10_act, 400, 398, 399),
  (cX10_handler, 7, 0, 6, some .int, 2, 64, false, yX10_handler, 422, 420, 421),
  (cX10_cut, 3, 0, 2, some .int, 2, 61, false, yX10_cut, 430, 428, 429),
  (cX10_price, 4, 0, 3, some .int, 2, 62, false, yX10_price, 434, 432, 433),
  (cX10_verify, 2, 0, 2, some .int, 5, 135, false, yX10_verify, 438, 436, 437),
  (cX10_info, 4, 0, 3, some .int, 2, 61, false, yX10_info, 475, 473, 474),
  (cX10_set, 4, 0, 3, some .int, 2, 62, false, yX10_set, 479, 477, 478),
  (cX10_plan, 2, 0, 2, some .int, 2, 62, false, yX10_plan, 483, 481, 482),
  (cX10_argument, 4, 0, 4, some .int, 3, 81, false, yX10_argument, 487, 485, 486),
  (cX10_run, 5, 0, 3, some .int, 8, 206, false, yX10_run, 504, 502, 503),
  (cX10_result, 3, 0, 2, some .int, 2, 62, false, yX10_result, 844, 842, 843),
  (cX10_into, 5, 0, 2, some .int, 4, 103, false, yX10_into, 856, 854, 855),
  (cX10_cell, 3, 0, 2, some .int, 2, 61, false, yX10_cell, 862, 860, 861),
  (cX10_counted, 2, 0, 2, some .int, 2, 62, false, yX10_counted, 866, 864, 865),
  (cX10_trace, 2, 0, 2, some .int, 1, 40, false, yX10_trace, 870, 868, 869),
  (cX10_left, 1, 0, 1, some .int, 1, 40, false, yX10_left, 874, 872, 873),
  (cX10_walk, 4, 0, 3, some .int, 5, 133, false, yX10_walk, 878, 876, 877),
  (cX10_step, 2, 0, 2, some .int, 8, 206, false, yX10_step, 882, 880, 881),
  (cX10_frame, 3, 0, 2, some .int, 2, 62, false, yX10_frame, 886, 884, 885),
  (cX10_register, 4, 0, 3, some .int, 2, 62, false, yX10_register, 895, 893, 894),
  (cX10_drop, 1, 0, 1, some .int, 4, 105, false, yX10_drop, 899, 897, 898),
  (cX10_told, 2, 0, 2, some .int, 2, 60, false, yX10_told, 904, 902, 903),
  (cX10_refusalToBegin, 3, 0, 3, some .int, 2, 62, false, yX10_refusalToBegin, 508, 507, 13),
  (cX10_isOutside, 3, 1, 3, some .boolean, 1, 40, false, yX10_isOutside, 392, 391, 0),
  (cX10_namesWrongRegister, 5, 1, 4, some .boolean, 2, 62, false, yX10_namesWrongRegister, 407, 406, 0),
  (cX10_namesWrongNumber, 4, 1, 4, some .boolean, 2, 62, false, yX10_namesWrongNumber, 414, 413, 0)]
def tbY11 : List MRow := [
  (cX11_init, 2, 2, 1, none, 1, 40, false, yX11_init, 909, 908, 0),
  (cX11_in, 3, 1, 3, some .boolean, 1, 40, false, yX11_in, 1066, 1065, 0),
  (cX11_isMember, 2, 0, 2, some .boolean, 2, 62, false, yX11_isMember, 1074, 1073, 69),
  (cX11_member, 2, 0, 2, some .int, 2, 62, false, yX11_member, 1063, 1061, 1062),
  (cX11_named, 1, 1, 1, some .int, 1, 40, false, yX11_named, 1080, 1079, 0),
  (cX11_isGood, 5, 1, 4, some .boolean, 2, 62, false, yX11_isGood, 1077, 1076, 0),
  (cX11_act, 7, 0, 6, some .int, 3, 86, false, yX11_act, 1070, 1068, 1069),
  (cX11_handler, 7, 0, 6, some .int, 3, 83, false, yX11_handler, 1084, 1082, 1083),
  (cX11_cut, 2, 0, 2, some .int, 3, 83, false, yX11_cut, 1088, 1086, 1087),
  (cX11_price, 4, 0, 3, some .int, 2, 62, false, yX11_price, 1092, 1090, 1091),
  (cX11_comes, 3, 0, 3, none, 1, 40, false, yX11_comes, 1108, 1107, 72),
  (cX11_looked, 9, 0, 2, some .int, 3, 83, false, yX11_looked, 1112, 1111, 73),
  (cX11_makes, 4, 0, 2, some .int, 1, 40, false, yX11_makes, 1104, 1103, 71),
  (cX11_spread, 8, 0, 3, none, 2, 63, false, yX11_spread, 1100, 1099, 70),
  (cX11_verify, 3, 0, 2, some .int, 4, 111, false, yX11_verify, 1096, 1094, 1095),
  (cX11_info, 3, 0, 3, some .int, 3, 83, false, yX11_info, 1116, 1114, 1115),
  (cX11_set, 4, 0, 3, some .int, 2, 62, false, yX11_set, 1120, 1118, 1119),
  (cX11_plan, 2, 0, 2, some .int, 2, 62, false, yX11_plan, 1124, 1122, 1123),
  (cX11_argument, 4, 0, 4, some .int, 2, 62, false, yX11_argument, 1128, 1126, 1127),
  (cX11_kindOf, 3, 0, 3, some .int, 1, 40, false, yX11_kindOf, 1236, 1235, 98),
  (cX11_toldOf, 3, 0, 3, some .int, 1, 40, false, yX11_toldOf, 1276, 1275, 107),
  (cX11_isOf, 5, 0, 4, some .boolean, 2, 62, false, yX11_isOf, 1232, 1231, 97),
  (cX11_pays, 3, 0, 2, some .boolean, 1, 40, true, yX11_pays, 1144, 1143, 76),
  (cX11_traces, 2, 0, 2, none, 1, 40, false, yX11_traces, 1148, 1147, 77),
  (cX11_release, 3, 0, 2, none, 1, 40, false, yX11_release, 1156, 1155, 79),
  (cX11_begins, 3, 0, 3, some .boolean, 2, 62, false, yX11_begins, 1140, 1139, 75),
  (cX11_stops, 2, 0, 1, none, 2, 62, false, yX11_stops, 1152, 1151, 78),
  (cX11_gives, 4, 0, 3, none, 2, 62, false, yX11_gives, 1164, 1163, 81),
  (cX11_throwsIt, 5, 0, 2, none, 3, 83, false, yX11_throwsIt, 1268, 1267, 106),
  (cX11_makes_, 3, 0, 3, none, 1, 40, false, yX11_makes_, 1176, 1175, 84),
  (cX11_against, 3, 0, 3, some .int, 1, 40, false, yX11_against, 1196, 1195, 89),
  (cX11_value, 2, 0, 2, some .int, 1, 40, false, yX11_value, 1184, 1183, 86),
  (cX11_againstBoth, 2, 0, 1, some .int, 2, 62, false, yX11_againstBoth, 1264, 1263, 105),
  (cX11_reckon, 5, 0, 2, some .int, 3, 83, false, yX11_reckon, 1260, 1259, 104),
  (cX11_goes, 3, 0, 2, some .int, 2, 62, false, yX11_goes, 1188, 1187, 87),
  (cX11_newRow, 3, 0, 1, some .int, 2, 62, false, yX11_newRow, 1200, 1199, 90),
  (cX11_newCell, 1, 0, 1, some .int, 2, 62, false, yX11_newCell, 1204, 1203, 91),
  (cX11_cut_, 2, 1, 2, some .int, 1, 40, false, yX11_cut_, 1211, 1210, 0),
  (cX11_put, 3, 0, 1, some .int, 2, 62, false, yX11_put, 1208, 1207, 92),
  (cX11_get, 4, 0, 1, some .int, 2, 62, false, yX11_get, 1216, 1215, 93),
  (cX11_field, 3, 0, 1, some .int, 2, 62, false, yX11_field, 1224, 1223, 95),
  (cX11_fill, 3, 0, 1, some .int, 2, 62, false, yX11_fill, 1228, 1227, 96),
  (cX11_monitor, 6, 0, 2, some .int, 2, 62, false, yX11_monitor, 1240, 1239, 99),
  (cX11_call, 4, 0, 1, some .int, 3, 84, false, yX11_call, 1244, 1243, 100),
  (cX11_note, 2, 0, 1, some .int, 2, 62, false, yX11_note, 1248, 1247, 101),
  (cX11_ask, 2, 0, 1, some .int, 2, 62, false, yX11_ask, 1252, 1251, 102),
  (cX11_weigh, 5, 0, 1, some .int, 2, 62, false, yX11_weigh, 1256, 1255, 103),
  (cX11_same, 2, 0, 1, some .int, 2, 62, false, yX11_same, 1180, 1179, 85),
  (cX11_branch, 2, 0, 1, some .int, 3, 84, false, yX11_branch, 1192, 1191, 88),
  (cX11_length, 2, 0, 1, some .int, 2, 62, false, yX11_length, 1220, 1219, 94),
  (cX11_does, 3, 0, 2, some .int, 4, 107, false, yX11_does, 1172, 1171, 83),
  (cX11_settle, 1, 0, 1, none, 3, 85, false, yX11_settle, 1160, 1159, 80),
  (cX11_goOn, 4, 0, 1, none, 5, 129, false, yX11_goOn, 1168, 1167, 82),
  (cX11_start, 4, 0, 3, none, 4, 105, false, yX11_start, 1136, 1135, 74),
  (cX11_run, 3, 0, 3, some .int, 6, 152, false, yX11_run, 1132, 1130, 1131),
  (cX11_result, 2, 0, 2, some .int, 2, 62, false, yX11_result, 1272, 1270, 1271),
  (cX11_into, 3, 0, 2, some .int, 2, 62, false, yX11_into, 1280, 1278, 1279),
  (cX11_cell, 2, 0, 2, some .int, 2, 62, false, yX11_cell, 1284, 1282, 1283),
  (cX11_counted, 2, 0, 2, some .int, 2, 62, false, yX11_counted, 1288, 1286, 1287),
  (cX11_trace, 2, 0, 2, some .int, 2, 62, false, yX11_trace, 1292, 1290, 1291),
  (cX11_left, 1, 0, 1, some .int, 1, 40, false, yX11_left, 1296, 1294, 1295),
  (cX11_walk, 3, 0, 3, some .int, 5, 128, false, yX11_walk, 1300, 1298, 1299),
  (cX11_step, 3, 0, 2, some .int, 6, 152, false, yX11_step, 1304, 1302, 1303),
  (cX11_frame, 4, 0, 2, some .int, 2, 62, false, yX11_frame, 1308, 1306, 1307),
  (cX11_register, 4, 0, 3, some .int, 2, 62, false, yX11_register, 1312, 1310, 1311),
  (cX11_drop, 1, 0, 1, some .int, 3, 83, false, yX11_drop, 1316, 1314, 1315),
  (cX11_told, 2, 0, 2, some .int, 2, 62, false, yX11_told, 1320, 1318, 1319)]
def tbY12 : List MRow := [
  (code, 4, 1, 1, some .boolean, 9, 230, false, ⟨"MarkedStepsLaw", "law", "([I)Z"⟩, 0, 0, 0)]
def tbY : Nat → List MRow := fun c => match c with
  | 0 => tbY0
  | 1 => tbY1
  | 2 => tbY2
  | 3 => tbY3
  | 4 => tbY4
  | 5 => tbY5
  | 6 => tbY6
  | 7 => tbY7
  | 8 => tbY8
  | 9 => tbY9
  | 10 => tbY10
  | 11 => tbY11
  | 12 => tbY12
  | _ => []
def mrow (m : Nat) : MRow := (tbY (m / 100)).getD (m % 100) (⟨#[]⟩, 0, 9, 0, none, 0, 0, true, ⟨"", "", ""⟩, 0, 0, 0)
def mcl (m : Nat) : Nat := m / 100
def mb (m : Nat) : ByteArray := (mrow m).1
def mxl (m : Nat) : Nat := (mrow m).2.1
def mkd (m : Nat) : Nat := (mrow m).2.2.1
def mnp (m : Nat) : Nat := (mrow m).2.2.2.1
def mret (m : Nat) : Option FieldType := (mrow m).2.2.2.2.1
def mrf (m : Nat) : Nat := (mrow m).2.2.2.2.2.1
def mrl (m : Nat) : Nat := (mrow m).2.2.2.2.2.2.1
def mlong (m : Nat) : Bool := (mrow m).2.2.2.2.2.2.2.1
def my (m : Nat) : MethodName := (mrow m).2.2.2.2.2.2.2.2.1
/-- who is called must be an object of the method's own class -/
def rcv (m : Nat) (as : List Value) (k : Nat → Nat) : Bool := match mkd m == 1 with
  | true => true
  | false => match as with
    | .ref a :: _ => k a == mcl m + 1
    | _ => false
def mini (m : Nat) : Bool := mkd m == 2
def mrra (m : Nat) : Bool := match mret m with
  | some (.object _) => true
  | some (.array _) => true
  | _ => false
