/-! THE TABLES: by program out of the claim's own names and words. A method's number: 100 * its class + its place. -/
def tbF : Nat → List (Nat × (Nat × Nat × Bool) × Nat) := fun own => match own with
  | 0 => [(12, (0, 1, false), 30080), (18, (0, 0, false), 30078), (22, (0, 3, false), 30087), (26, (2, 2, true), 30177), (31, (2, 3, true), 30178), (34, (0, 2, false), 30083)]
  | 1 => [(11, (1, 0, false), 10164), (18, (1, 1, false), 10167), (22, (1, 2, false), 10169), (26, (1, 3, false), 10171), (30, (1, 4, false), 10173), (36, (4, 0, true), 10101), (45, (4, 2, true), 10108), (52, (4, 4, true), 10114)]
  | 3 => [(11, (3, 0, false), 10194), (20, (3, 2, false), 10199), (27, (3, 3, false), 10201), (31, (3, 4, false), 10202), (35, (3, 5, false), 10204), (40, (3, 6, false), 10205), (47, (3, 8, false), 10208), (51, (3, 10, false), 10211), (58, (3, 1, false), 10197), (62, (3, 7, false), 10206), (71, (1, 6, true), 10178), (74, (3, 12, false), 10215), (81, (3, 11, false), 10213), (119, (1, 4, true), 10174), (130, (4, 1, true), 10104), (133, (6, 1, true), 10040), (147, (1, 1, true), 10168), (160, (3, 15, false), 10221), (163, (1, 2, true), 10170), (174, (3, 14, false), 10219), (177, (1, 0, true), 10165), (181, (3, 9, false), 10210), (187, (4, 11, true), 10130), (190, (3, 13, false), 10217), (193, (4, 3, true), 10111), (196, (4, 5, true), 10118), (199, (4, 6, true), 10121), (202, (4, 4, true), 10115), (289, (8, 1, true), 10078), (312, (8, 3, true), 10085), (332, (7, 1, true), 30049), (335, (8, 2, true), 10081), (339, (0, 2, true), 30085), (342, (0, 1, true), 30082)]
  | 4 => [(9, (4, 3, false), 10109), (15, (4, 4, false), 10112), (18, (4, 5, false), 10116), (21, (4, 6, false), 10119), (24, (4, 8, false), 10125), (27, (4, 9, false), 10126), (30, (4, 10, false), 10127), (33, (4, 11, false), 10128), (36, (4, 2, false), 10105), (40, (4, 7, false), 10122)]
  | 5 => [(7, (0, 3, true), 30086), (13, (2, 1, true), 30175), (25, (2, 2, true), 30176), (29, (1, 6, true), 10177), (34, (5, 0, false), 10061), (38, (2, 4, true), 30180), (41, (2, 0, true), 30174), (45, (2, 3, true), 30179), (48, (1, 5, true), 10176)]
  | 6 => [(9, (6, 0, false), 10037), (15, (6, 1, false), 10039), (18, (6, 3, false), 10043), (22, (6, 2, false), 10042)]
  | 7 => [(9, (7, 0, false), 30044), (21, (7, 1, false), 30047), (24, (7, 2, false), 30050), (28, (7, 3, false), 30052), (43, (8, 0, true), 10074), (46, (8, 3, true), 10083), (50, (8, 1, true), 10077)]
  | 8 => [(9, (8, 0, false), 10073), (15, (8, 1, false), 10076), (18, (8, 2, false), 10079), (22, (8, 3, false), 10082), (29, (0, 0, true), 30079), (34, (7, 0, true), 30045), (43, (0, 2, true), 30084), (46, (7, 1, true), 30048)]
  | 9 => [(9, (9, 0, false), 20022), (15, (4, 0, true), 10100), (29, (4, 2, true), 10106), (43, (4, 3, true), 10110), (49, (4, 4, true), 10113), (52, (4, 5, true), 10117), (55, (4, 7, true), 10124), (62, (4, 11, true), 10129), (71, (4, 6, true), 10120), (74, (3, 0, true), 10196)]
  | 10 => [(10, (10, 0, false), 20028), (19, (10, 1, false), 20029), (25, (10, 2, false), 20030), (38, (3, 1, true), 10198), (42, (3, 0, true), 10195), (46, (4, 0, true), 10102), (62, (4, 2, true), 10107), (69, (4, 7, true), 10123), (75, (3, 2, true), 10200), (79, (6, 0, true), 10038), (89, (4, 1, true), 10103), (92, (3, 4, true), 10203), (102, (3, 8, true), 10209), (123, (8, 0, true), 10075), (130, (8, 2, true), 10080), (139, (0, 1, true), 30081), (142, (8, 3, true), 10084), (146, (7, 0, true), 30046), (158, (7, 2, true), 30051), (161, (6, 1, true), 10041), (164, (3, 11, true), 10214), (167, (3, 10, true), 10212), (170, (6, 3, true), 10044), (177, (3, 7, true), 10207), (180, (1, 3, true), 10172), (185, (1, 4, true), 10175), (191, (1, 0, true), 10166), (197, (3, 12, true), 10216), (200, (3, 13, true), 10218), (203, (3, 14, true), 10220), (206, (3, 15, true), 10222)]
  | 11 => [(7, (11, 1, false), 40085), (13, (11, 2, false), 40086), (16, (11, 3, false), 40087), (19, (11, 4, false), 40088), (22, (11, 5, false), 40089), (25, (11, 6, false), 40090), (28, (11, 7, false), 40091), (31, (11, 9, false), 40093), (34, (11, 11, false), 40095), (37, (11, 12, false), 40096), (40, (11, 13, false), 40097), (43, (11, 14, false), 40098), (46, (11, 18, false), 40102), (49, (11, 19, false), 40103), (52, (11, 20, false), 40104), (55, (11, 21, false), 40105), (58, (11, 22, false), 40106), (61, (11, 24, false), 40108), (64, (11, 25, false), 40109), (67, (11, 26, false), 40110), (70, (11, 27, false), 40111), (73, (11, 30, false), 40114), (76, (11, 31, false), 40115), (79, (11, 32, false), 40116), (82, (11, 33, false), 40117), (85, (11, 34, false), 40118), (88, (11, 35, false), 40119), (92, (11, 36, false), 40120), (95, (11, 39, false), 40123), (98, (11, 40, false), 40124), (101, (11, 43, false), 40127), (104, (11, 38, false), 40122), (108, (11, 0, false), 40084), (115, (11, 8, false), 40092), (131, (11, 10, false), 40094), (147, (11, 15, false), 40099), (150, (11, 16, false), 40100), (157, (11, 37, false), 40121), (160, (11, 41, false), 40125), (163, (11, 17, false), 40101), (174, (11, 29, false), 40113), (180, (11, 44, false), 40128), (186, (11, 42, false), 40126), (189, (11, 45, false), 40129), (192, (11, 46, false), 40130), (195, (11, 47, false), 40131), (201, (11, 48, false), 40132), (213, (11, 23, false), 40107), (216, (11, 28, false), 40112)]
  | _ => []
def tbS : Nat → List (Nat × (Nat × Bool) × Nat) := fun own => match own with
  | 9 => [(46, (3, true), 20107), (82, (2, true), 20123)]
  | 10 => [(209, (2, false), 20060), (212, (3, false), 20062)]
  | _ => []
def tbM : Nat → List (Nat × (Nat × Bool) × Nat) := fun own => match own with
  | 0 => [(3, (9000, false), 30075), (11, (800, true), 30077)]
  | 1 => [(3, (9000, false), 10160), (17, (800, true), 10163), (33, (801, true), 20189), (41, (805, true), 20190), (48, (103, false), 20222), (56, (102, false), 20223)]
  | 2 => [(1, (9000, false), 30173)]
  | 3 => [(3, (9000, false), 10028), (19, (600, true), 10033), (26, (500, true), 10057), (46, (800, true), 10069), (54, (400, true), 10096), (55, (100, true), 10157), (65, (9001, false), 20191), (77, (601, true), 20165), (84, (801, true), 20169), (87, (9002, false), 20170), (93, (308, false), 20173), (97, (310, false), 20198), (101, (313, false), 20228), (104, (307, false), 20237), (107, (303, false), 20202), (111, (315, false), 30001), (115, (311, false), 40000), (122, (603, true), 20177), (126, (101, true), 20185), (136, (314, false), 20194), (139, (504, true), 20214), (143, (103, true), 20206), (150, (309, false), 20210), (153, (105, true), 20218), (157, (805, true), 20227), (167, (404, true), 40004), (170, (312, false), 40009), (184, (802, true), 30006), (205, (102, true), 30005), (209, (808, true), 30007), (213, (318, false), 30011), (217, (319, false), 30015), (221, (320, false), 30027), (225, (321, false), 30066), (229, (322, false), 30101), (233, (323, false), 30127), (236, (324, false), 30137), (240, (325, false), 30140), (243, (326, false), 30147), (247, (807, true), 30150), (250, (806, true), 30155), (253, (327, false), 30156), (257, (328, false), 30192), (260, (329, false), 30200), (264, (330, false), 30204), (267, (104, true), 30209), (270, (331, false), 30213), (273, (332, false), 30221), (276, (333, false), 30225), (279, (317, false), 30237), (283, (811, true), 30019), (286, (316, false), 30217), (292, (604, true), 30031), (297, (700, true), 30037), (300, (804, true), 30062), (306, (0, true), 30072), (308, (803, true), 30097), (316, (810, true), 30104), (319, (703, true), 30105), (322, (701, true), 30114), (325, (704, true), 30118), (329, (705, true), 30130), (345, (1, true), 30143), (348, (501, true), 30160), (351, (502, true), 30196), (354, (301, false), 30208), (357, (1025, true), 30220), (361, (3, true), 30229), (364, (4, true), 30233)]
  | 4 => [(3, (9000, false), 10099), (43, (403, false), 40008)]
  | 5 => [(1, (9000, false), 10060), (19, (503, false), 30164), (37, (200, true), 30170)]
  | 6 => [(3, (9000, false), 10036), (25, (602, false), 20181)]
  | 7 => [(3, (9000, false), 30040), (15, (9001, false), 30041), (33, (811, true), 30109), (39, (806, true), 30110), (53, (702, false), 30122), (57, (802, true), 30134), (61, (801, true), 30135), (64, (804, true), 30136)]
  | 8 => [(3, (9000, false), 10072), (26, (801, false), 20148), (39, (806, false), 30154), (49, (810, false), 30023)]
  | 9 => [(3, (9000, false), 20021), (21, (905, false), 20095), (25, (902, false), 20099), (32, (906, false), 20116), (36, (903, false), 20103), (40, (904, false), 20108), (58, (403, true), 20112), (65, (301, true), 20119), (78, (907, false), 20120)]
  | 10 => [(1, (9000, false), 10020), (9, (300, true), 10025), (18, (900, true), 20018), (29, (800, true), 20027), (30, (1025, false), 20042), (34, (302, true), 20045), (51, (301, true), 20053), (55, (1026, false), 20057), (59, (1027, false), 20064), (65, (401, true), 20067), (72, (402, true), 20075), (85, (901, true), 20091), (95, (801, true), 20140), (98, (802, true), 20144), (106, (805, true), 20149), (110, (1024, false), 20157), (114, (305, true), 20161), (119, (306, true), 20233), (126, (809, true), 40017), (134, (2, true), 40021), (151, (701, true), 40029), (154, (705, true), 40030), (173, (303, true), 40059), (188, (304, true), 40060), (194, (313, true), 40072)]
  | 11 => [(1, (9000, false), 40082), (111, (1101, false), 40236), (119, (1104, false), 50010), (123, (1102, false), 50003), (127, (1105, false), 50007), (134, (1112, false), 50033), (137, (1110, false), 50037), (141, (1113, false), 50029), (144, (1111, false), 50041), (153, (1119, false), 50165), (166, (1122, false), 50073), (170, (1123, false), 50077), (177, (1124, false), 50085), (183, (1126, false), 50081), (198, (1130, false), 50125), (204, (1132, false), 50193), (208, (1131, false), 50113), (211, (1129, false), 50105), (220, (1137, false), 50141), (223, (1125, false), 50069), (226, (1134, false), 50117), (229, (1147, false), 50109), (232, (1148, false), 50121), (235, (1135, false), 50129), (238, (1136, false), 50133), (241, (1138, false), 50137), (244, (1139, false), 50145), (247, (1149, false), 50149), (250, (1140, false), 50153), (253, (1141, false), 50157), (256, (1121, false), 50161), (259, (1142, false), 50169), (263, (1143, false), 50173), (266, (1144, false), 50177), (269, (1145, false), 50181), (272, (1146, false), 50185), (275, (1133, false), 50189), (278, (1127, false), 50093), (281, (1150, false), 50101), (284, (1128, false), 50197), (287, (1151, false), 50089), (290, (1153, false), 50065), (293, (1152, false), 50097), (296, (1120, false), 50205)]
  | 12 => [(9, (1000, false), 10017), (12, (1100, false), 40079), (13, (1001, false), 20038), (17, (1103, false), 40232), (18, (1002, false), 20049), (22, (1106, false), 40239), (23, (1003, false), 20071), (26, (1107, false), 50013), (27, (1004, false), 20079), (30, (1108, false), 50017), (31, (1005, false), 20083), (35, (1109, false), 50021), (36, (1006, false), 20087), (39, (1114, false), 50025), (40, (1007, false), 20124), (43, (1115, false), 50045), (44, (1008, false), 20128), (47, (1116, false), 50049), (48, (1009, false), 20132), (51, (1117, false), 50053), (52, (1010, false), 20136), (56, (1118, false), 50057), (57, (1011, false), 20153), (60, (1154, false), 50061), (61, (1012, false), 40013), (64, (1155, false), 50201), (65, (1013, false), 40025), (68, (1156, false), 50209), (69, (1014, false), 40031), (72, (1157, false), 50213), (73, (1015, false), 40035), (76, (1158, false), 50217), (77, (1016, false), 40039), (80, (1159, false), 50221), (81, (1017, false), 40043), (85, (1160, false), 50225), (86, (1018, false), 40047), (89, (1161, false), 50229), (90, (1019, false), 40051), (93, (1162, false), 50233), (94, (1020, false), 40055), (97, (1163, false), 50237), (98, (1021, false), 40064), (101, (1164, false), 60001), (102, (1022, false), 40068), (105, (1165, false), 60005), (106, (1023, false), 40073), (109, (1166, false), 60009)]
  | _ => []
def tbK : Nat → List (Nat × Nat × Nat) := fun own => match own with
  | 0 => [(9, 8, 30076)]
  | 1 => [(9, 8, 10161)]
  | 3 => [(9, 4, 10029), (17, 6, 10031), (24, 5, 10055), (38, 1, 10065), (44, 8, 10067), (295, 7, 30035), (304, 0, 30070)]
  | 5 => [(14, 2, 30168)]
  | 7 => [(10, 7, 30042)]
  | 10 => [(7, 3, 10023), (16, 9, 20016), (23, 8, 20026)]
  | 12 => [(7, 10, 10015), (10, 11, 40077)]
  | _ => []
def tbC : Nat → List (Nat × Int32 × Nat) := fun own => match own with
  | 7 => [(32, 65535, 30126)]
  | 10 => [(118, 1000000, 20232)]
  | 11 => [(91, 72000, 40083), (219, 65535, 50144)]
  | _ => []
def lkF (own idx : Nat) : Option (Nat × Nat × Bool) := ((tbF own).find? (fun e => e.1 == idx)).map (fun e => e.2.1)
def lkS (own idx : Nat) : Option (Nat × Bool) := ((tbS own).find? (fun e => e.1 == idx)).map (fun e => e.2.1)
def lkM (own idx : Nat) : Option (Nat × Bool) := ((tbM own).find? (fun e => e.1 == idx)).map (fun e => e.2.1)
def lkK (own idx : Nat) : Option (Nat) := ((tbK own).find? (fun e => e.1 == idx)).map (fun e => e.2.1)
def lkC (own idx : Nat) : Option (Int32) := ((tbC own).find? (fun e => e.1 == idx)).map (fun e => e.2.1)
def cname : Nat → String := fun c => match c with
  | 0 => RX0
  | 1 => RX1
  | 2 => RX2
  | 3 => RX3
  | 4 => RX4
  | 5 => RX5
  | 6 => RX6
  | 7 => RX7
  | 8 => RX8
  | 9 => RX9
  | 10 => RX10
  | 11 => RX11
  | _ => "MarkedStepsLaw"
def fnum : Nat → Nat := fun c => match c with
  | 0 => 4
  | 1 => 7
  | 2 => 5
  | 3 => 16
  | 4 => 12
  | 5 => 1
  | 6 => 4
  | 7 => 4
  | 8 => 4
  | 9 => 1
  | 10 => 3
  | 11 => 49
  | _ => 0
def ftab : Nat → u_T := fun c => match c with
  | 0 => TX0
  | 1 => TX1
  | 2 => TX2
  | 3 => TX3
  | 4 => TX4
  | 5 => TX5
  | 6 => TX6
  | 7 => TX7
  | 8 => TX8
  | 9 => TX9
  | 10 => TX10
  | _ => TX11
def fty : Nat → Nat → FieldType := fun c => match c with
  | 0 => tyX0
  | 1 => tyX1
  | 2 => tyX2
  | 3 => tyX3
  | 4 => tyX4
  | 5 => tyX5
  | 6 => tyX6
  | 7 => tyX7
  | 8 => tyX8
  | 9 => tyX9
  | 10 => tyX10
  | _ => tyX11
def ffin (c k : Nat) : Bool := (ftab c k).2.2.2
/-- classes of which there are arrays: class, place of the word -/
def tbO : List (Nat × Nat) := [(1, 10066), (4, 10030), (7, 30043), (8, 10162)]
def lkO (ci : Nat) : Bool := tbO.any (fun e => e.1 == ci)
abbrev MRow : Type := ByteArray × Nat × Nat × Nat × Option FieldType × Nat × Nat × Bool × MethodName × Nat × Nat × Nat
def tbY0 : List MRow := [
  (cX0_init, 2, 2, 2, none, 2, 60, false, yX0_init, 30074, 30073, 0),
  (cX0_otherMark, 1, 0, 1, some .int, 1, 40, false, yX0_otherMark, 30146, 30145, 48),
  (cX0_timesHeld, 3, 0, 1, some .int, 1, 40, false, yX0_timesHeld, 40024, 40023, 67),
  (cX0_bodiesOfWeight, 1, 0, 1, some .int, 1, 40, false, yX0_bodiesOfWeight, 30232, 30231, 61),
  (cX0_weight, 3, 0, 1, some .int, 1, 40, false, yX0_weight, 30236, 30235, 62)]
def tbY1 : List MRow := [
  (cX1_init, 3, 2, 2, none, 2, 60, false, yX1_init, 10159, 10158, 0),
  (cX1_begin, 6, 0, 5, none, 2, 61, false, yX1_begin, 20188, 20187, 19),
  (cX1_named, 2, 0, 2, some (.object "MarkedSteps$Slot"), 1, 40, false, yX1_named, 20226, 20225, 27),
  (cX1_isBehindItsActs, 1, 0, 1, some .boolean, 1, 40, false, yX1_isBehindItsActs, 20209, 20208, 23),
  (cX1_give, 2, 0, 2, none, 2, 61, false, yX1_give, 30212, 30211, 57),
  (cX1_takeGiven, 2, 0, 2, none, 2, 61, false, yX1_takeGiven, 20221, 20220, 26)]
def tbY2 : List MRow := [
  (cX2_init, 1, 2, 1, none, 1, 40, false, yX2_init, 30172, 30171, 0)]
def tbY3 : List MRow := [
  (cX3_init, 2, 2, 1, none, 3, 82, false, yX3_init, 10027, 10026, 0),
  (cX3_lacksMember, 2, 0, 2, some .boolean, 1, 40, false, yX3_lacksMember, 20056, 20055, 1),
  (cX3_isWalked, 1, 0, 1, some .boolean, 1, 40, false, yX3_isWalked, 20048, 20047, 0),
  (cX3_top, 1, 0, 1, some (.object "MarkedSteps$Frame"), 1, 40, false, yX3_top, 20205, 20204, 22),
  (cX3_holdings, 3, 0, 1, some .int, 1, 40, false, yX3_holdings, 40063, 40062, 68),
  (cX3_begin, 4, 0, 4, some .int, 4, 110, false, yX3_begin, 20164, 20163, 14),
  (cX3_doActs, 4, 0, 2, some .int, 7, 183, false, yX3_doActs, 20236, 20235, 29),
  (cX3_doOneAct, 3, 0, 1, some .int, 6, 161, false, yX3_doOneAct, 30000, 20239, 30),
  (cX3_beginFrame, 5, 0, 4, some .boolean, 3, 86, false, yX3_beginFrame, 20176, 20175, 16),
  (cX3_endFrame, 2, 0, 1, none, 2, 63, false, yX3_endFrame, 20213, 20212, 24),
  (cX3_endFramesBehindTheirActs, 3, 0, 1, some .int, 3, 84, false, yX3_endFramesBehindTheirActs, 20201, 20200, 21),
  (cX3_goToHandler, 5, 0, 2, some .int, 4, 106, false, yX3_goToHandler, 40003, 40002, 63),
  (cX3_beginHandler, 4, 0, 4, some .int, 3, 83, false, yX3_beginHandler, 40012, 40011, 65),
  (cX3_stop, 2, 0, 1, some .int, 3, 84, false, yX3_stop, 20231, 20230, 28),
  (cX3_keepTrace, 2, 0, 2, none, 1, 40, false, yX3_keepTrace, 20197, 20196, 20),
  (cX3_perform, 9, 0, 2, some .int, 5, 133, false, yX3_perform, 30004, 30003, 31),
  (cX3_misfitAsNumbers, 3, 1, 2, some .int, 3, 80, false, yX3_misfitAsNumbers, 30219, 30218, 0),
  (cX3_reckon, 7, 1, 4, some .int, 4, 102, false, yX3_reckon, 30239, 30238, 0),
  (cX3_goTo, 3, 0, 3, some .int, 3, 83, false, yX3_goTo, 30014, 30013, 33),
  (cX3_branch, 5, 0, 4, some .int, 4, 105, false, yX3_branch, 30018, 30017, 34),
  (cX3_makeRow, 6, 0, 4, some .int, 3, 83, false, yX3_makeRow, 30030, 30029, 37),
  (cX3_makeCell, 3, 0, 3, some .int, 3, 83, false, yX3_makeCell, 30069, 30068, 40),
  (cX3_put, 5, 1, 3, some .int, 4, 101, false, yX3_put, 30103, 30102, 0),
  (cX3_get, 5, 1, 3, some .int, 4, 103, false, yX3_get, 30129, 30128, 0),
  (cX3_length, 3, 1, 2, some .int, 3, 81, false, yX3_length, 30139, 30138, 0),
  (cX3_field, 4, 1, 3, some .int, 3, 81, false, yX3_field, 30142, 30141, 0),
  (cX3_fill, 5, 1, 3, some .int, 3, 80, false, yX3_fill, 30149, 30148, 0),
  (cX3_enter, 4, 0, 3, some .int, 4, 106, false, yX3_enter, 30159, 30158, 50),
  (cX3_leave, 4, 0, 3, some .int, 2, 63, false, yX3_leave, 30195, 30194, 53),
  (cX3_throwOwn, 3, 0, 2, some .int, 3, 80, false, yX3_throwOwn, 30203, 30202, 55),
  (cX3_call, 4, 0, 4, some .int, 4, 110, false, yX3_call, 30207, 30206, 56),
  (cX3_note, 4, 0, 3, some .int, 4, 102, false, yX3_note, 30216, 30215, 58),
  (cX3_ask, 4, 0, 3, some .int, 3, 81, false, yX3_ask, 30224, 30223, 59),
  (cX3_weigh, 6, 0, 3, some .int, 3, 83, false, yX3_weigh, 30228, 30227, 60)]
def tbY4 : List MRow := [
  (cX4_init, 1, 2, 1, none, 1, 40, false, yX4_init, 10098, 10097, 0),
  (cX4_addAct, 5, 0, 5, some .int, 1, 40, false, yX4_addAct, 20070, 20069, 2),
  (cX4_addHandler, 5, 0, 5, some .int, 1, 40, false, yX4_addHandler, 20078, 20077, 3),
  (cX4_handlerHas, 3, 0, 3, some .boolean, 1, 40, false, yX4_handlerHas, 20115, 20114, 9),
  (cX4_firstHandlerOf, 4, 0, 3, some .int, 2, 62, false, yX4_firstHandlerOf, 40007, 40006, 64)]
def tbY5 : List MRow := [
  (cX5_init, 1, 2, 1, none, 1, 40, false, yX5_init, 10059, 10058, 0),
  (cX5_enter, 4, 0, 3, none, 3, 83, false, yX5_enter, 30163, 30162, 51),
  (cX5_leave, 4, 0, 3, some .boolean, 1, 40, false, yX5_leave, 30199, 30198, 54),
  (cX5_newHold, 4, 0, 3, some (.object "MarkedSteps$Hold"), 2, 60, false, yX5_newHold, 30167, 30166, 52),
  (cX5_leaveAll, 4, 0, 2, none, 1, 40, false, yX5_leaveAll, 20217, 20216, 25)]
def tbY6 : List MRow := [
  (cX6_init, 1, 2, 1, none, 1, 40, false, yX6_init, 10035, 10034, 0),
  (cX6_open, 3, 0, 2, none, 1, 40, false, yX6_open, 20168, 20167, 15),
  (cX6_takes, 3, 0, 2, some .boolean, 1, 40, true, yX6_takes, 20184, 20183, 18),
  (cX6_paysFor, 2, 0, 2, some .boolean, 2, 62, false, yX6_paysFor, 20180, 20179, 17),
  (cX6_paysForRow, 2, 0, 2, some .boolean, 2, 62, false, yX6_paysForRow, 30034, 30033, 38)]
def tbY7 : List MRow := [
  (cX7_init, 3, 2, 3, none, 1, 40, false, yX7_init, 30039, 30038, 0),
  (cX7_lacksCell, 2, 0, 2, some .boolean, 1, 40, false, yX7_lacksCell, 30117, 30116, 44),
  (cX7_narrowed, 2, 0, 2, some .int, 1, 40, false, yX7_narrowed, 30125, 30124, 46),
  (cX7_misfitInCell, 2, 0, 2, some .int, 3, 80, false, yX7_misfitInCell, 30108, 30107, 42),
  (cX7_copyFrom, 3, 0, 3, none, 2, 61, false, yX7_copyFrom, 30121, 30120, 45),
  (cX7_copyTo, 3, 0, 3, none, 3, 81, false, yX7_copyTo, 30133, 30132, 47)]
def tbY8 : List MRow := [
  (cX8_init, 1, 2, 1, none, 1, 40, false, yX8_init, 10071, 10070, 0),
  (cX8_becomeNothing, 1, 0, 1, none, 1, 40, false, yX8_becomeNothing, 20143, 20142, 10),
  (cX8_becomeNumber, 2, 0, 2, none, 2, 60, false, yX8_becomeNumber, 20147, 20146, 11),
  (cX8_becomeCell, 2, 0, 2, none, 2, 60, false, yX8_becomeCell, 30100, 30099, 41),
  (cX8_becomeRow, 2, 0, 2, none, 2, 60, false, yX8_becomeRow, 30065, 30064, 39),
  (cX8_copy, 2, 0, 2, none, 1, 40, false, yX8_copy, 20152, 20151, 12),
  (cX8_isNothing, 1, 0, 1, some .boolean, 1, 40, false, yX8_isNothing, 30113, 30112, 43),
  (cX8_isOf, 2, 0, 2, some .boolean, 2, 60, false, yX8_isOf, 30153, 30152, 49),
  (cX8_isSameAs, 2, 0, 2, some .boolean, 1, 40, false, yX8_isSameAs, 30010, 30009, 32),
  (cX8_measure, 1, 0, 1, some .int, 1, 40, false, yX8_measure, 40020, 40019, 66),
  (cX8_misfit, 1, 0, 1, some .int, 1, 40, false, yX8_misfit, 30026, 30025, 36),
  (cX8_misfitAsNumber, 1, 0, 1, some .int, 2, 60, false, yX8_misfitAsNumber, 30022, 30021, 35)]
def tbY9 : List MRow := [
  (cX9_init, 1, 2, 1, none, 1, 40, false, yX9_init, 20020, 20019, 0),
  (cX9_leastActThatLooksAtUnset, 5, 0, 3, some .int, 4, 111, false, yX9_leastActThatLooksAtUnset, 20094, 20093, 4),
  (cX9_passOver, 4, 0, 2, some .boolean, 3, 88, false, yX9_passOver, 20102, 20101, 6),
  (cX9_goOn, 5, 0, 3, some .boolean, 2, 64, false, yX9_goOn, 20106, 20105, 7),
  (cX9_goToHandlers, 5, 0, 3, some .boolean, 2, 64, false, yX9_goToHandlers, 20111, 20110, 8),
  (cX9_comeTo, 5, 0, 4, some .boolean, 1, 40, false, yX9_comeTo, 20098, 20097, 5),
  (cX9_lookedAt, 5, 1, 3, some .int, 2, 62, false, yX9_lookedAt, 20118, 20117, 0),
  (cX9_passedOn, 3, 1, 2, some .int, 1, 40, false, yX9_passedOn, 20122, 20121, 0)]
def tbY10 : List MRow := [
  (cX10_init, 2, 2, 1, none, 4, 103, false, yX10_init, 10019, 10018, 0),
  (cX10_member, 3, 0, 2, some .int, 2, 62, false, yX10_member, 20041, 20039, 20040),
  (cX10_act, 7, 0, 6, some .int, 3, 86, false, yX10_act, 20052, 20050, 20051),
  (cX10_handler, 7, 0, 6, some .int, 2, 64, false, yX10_handler, 20074, 20072, 20073),
  (cX10_cut, 3, 0, 2, some .int, 2, 61, false, yX10_cut, 20082, 20080, 20081),
  (cX10_price, 4, 0, 3, some .int, 2, 62, false, yX10_price, 20086, 20084, 20085),
  (cX10_verify, 2, 0, 2, some .int, 5, 135, false, yX10_verify, 20090, 20088, 20089),
  (cX10_info, 4, 0, 3, some .int, 2, 61, false, yX10_info, 20127, 20125, 20126),
  (cX10_set, 4, 0, 3, some .int, 2, 62, false, yX10_set, 20131, 20129, 20130),
  (cX10_plan, 2, 0, 2, some .int, 2, 62, false, yX10_plan, 20135, 20133, 20134),
  (cX10_argument, 4, 0, 4, some .int, 3, 81, false, yX10_argument, 20139, 20137, 20138),
  (cX10_run, 5, 0, 3, some .int, 8, 206, false, yX10_run, 20156, 20154, 20155),
  (cX10_result, 3, 0, 2, some .int, 2, 62, false, yX10_result, 40016, 40014, 40015),
  (cX10_into, 5, 0, 2, some .int, 4, 103, false, yX10_into, 40028, 40026, 40027),
  (cX10_cell, 3, 0, 2, some .int, 2, 61, false, yX10_cell, 40034, 40032, 40033),
  (cX10_counted, 2, 0, 2, some .int, 2, 62, false, yX10_counted, 40038, 40036, 40037),
  (cX10_trace, 2, 0, 2, some .int, 1, 40, false, yX10_trace, 40042, 40040, 40041),
  (cX10_left, 1, 0, 1, some .int, 1, 40, false, yX10_left, 40046, 40044, 40045),
  (cX10_walk, 4, 0, 3, some .int, 5, 133, false, yX10_walk, 40050, 40048, 40049),
  (cX10_step, 2, 0, 2, some .int, 8, 206, false, yX10_step, 40054, 40052, 40053),
  (cX10_frame, 3, 0, 2, some .int, 2, 62, false, yX10_frame, 40058, 40056, 40057),
  (cX10_register, 4, 0, 3, some .int, 2, 62, false, yX10_register, 40067, 40065, 40066),
  (cX10_drop, 1, 0, 1, some .int, 4, 105, false, yX10_drop, 40071, 40069, 40070),
  (cX10_told, 2, 0, 2, some .int, 2, 60, false, yX10_told, 40076, 40074, 40075),
  (cX10_refusalToBegin, 3, 0, 3, some .int, 2, 62, false, yX10_refusalToBegin, 20160, 20159, 13),
  (cX10_isOutside, 3, 1, 3, some .boolean, 1, 40, false, yX10_isOutside, 20044, 20043, 0),
  (cX10_namesWrongRegister, 5, 1, 4, some .boolean, 2, 62, false, yX10_namesWrongRegister, 20059, 20058, 0),
  (cX10_namesWrongNumber, 4, 1, 4, some .boolean, 2, 62, false, yX10_namesWrongNumber, 20066, 20065, 0)]
def tbY11 : List MRow := [
  (cX11_init, 2, 2, 1, none, 1, 40, false, yX11_init, 40081, 40080, 0),
  (cX11_in, 3, 1, 3, some .boolean, 1, 40, false, yX11_in, 40238, 40237, 0),
  (cX11_isMember, 2, 0, 2, some .boolean, 2, 62, false, yX11_isMember, 50006, 50005, 69),
  (cX11_member, 2, 0, 2, some .int, 2, 62, false, yX11_member, 40235, 40233, 40234),
  (cX11_named, 1, 1, 1, some .int, 1, 40, false, yX11_named, 50012, 50011, 0),
  (cX11_isGood, 5, 1, 4, some .boolean, 2, 62, false, yX11_isGood, 50009, 50008, 0),
  (cX11_act, 7, 0, 6, some .int, 3, 86, false, yX11_act, 50002, 50000, 50001),
  (cX11_handler, 7, 0, 6, some .int, 3, 83, false, yX11_handler, 50016, 50014, 50015),
  (cX11_cut, 2, 0, 2, some .int, 3, 83, false, yX11_cut, 50020, 50018, 50019),
  (cX11_price, 4, 0, 3, some .int, 2, 62, false, yX11_price, 50024, 50022, 50023),
  (cX11_comes, 3, 0, 3, none, 1, 40, false, yX11_comes, 50040, 50039, 72),
  (cX11_looked, 9, 0, 2, some .int, 3, 83, false, yX11_looked, 50044, 50043, 73),
  (cX11_makes, 4, 0, 2, some .int, 1, 40, false, yX11_makes, 50036, 50035, 71),
  (cX11_spread, 8, 0, 3, none, 2, 63, false, yX11_spread, 50032, 50031, 70),
  (cX11_verify, 3, 0, 2, some .int, 4, 111, false, yX11_verify, 50028, 50026, 50027),
  (cX11_info, 3, 0, 3, some .int, 3, 83, false, yX11_info, 50048, 50046, 50047),
  (cX11_set, 4, 0, 3, some .int, 2, 62, false, yX11_set, 50052, 50050, 50051),
  (cX11_plan, 2, 0, 2, some .int, 2, 62, false, yX11_plan, 50056, 50054, 50055),
  (cX11_argument, 4, 0, 4, some .int, 2, 62, false, yX11_argument, 50060, 50058, 50059),
  (cX11_kindOf, 3, 0, 3, some .int, 1, 40, false, yX11_kindOf, 50168, 50167, 98),
  (cX11_toldOf, 3, 0, 3, some .int, 1, 40, false, yX11_toldOf, 50208, 50207, 107),
  (cX11_isOf, 5, 0, 4, some .boolean, 2, 62, false, yX11_isOf, 50164, 50163, 97),
  (cX11_pays, 3, 0, 2, some .boolean, 1, 40, true, yX11_pays, 50076, 50075, 76),
  (cX11_traces, 2, 0, 2, none, 1, 40, false, yX11_traces, 50080, 50079, 77),
  (cX11_release, 3, 0, 2, none, 1, 40, false, yX11_release, 50088, 50087, 79),
  (cX11_begins, 3, 0, 3, some .boolean, 2, 62, false, yX11_begins, 50072, 50071, 75),
  (cX11_stops, 2, 0, 1, none, 2, 62, false, yX11_stops, 50084, 50083, 78),
  (cX11_gives, 4, 0, 3, none, 2, 62, false, yX11_gives, 50096, 50095, 81),
  (cX11_throwsIt, 5, 0, 2, none, 3, 83, false, yX11_throwsIt, 50200, 50199, 106),
  (cX11_makes_, 3, 0, 3, none, 1, 40, false, yX11_makes_, 50108, 50107, 84),
  (cX11_against, 3, 0, 3, some .int, 1, 40, false, yX11_against, 50128, 50127, 89),
  (cX11_value, 2, 0, 2, some .int, 1, 40, false, yX11_value, 50116, 50115, 86),
  (cX11_againstBoth, 2, 0, 1, some .int, 2, 62, false, yX11_againstBoth, 50196, 50195, 105),
  (cX11_reckon, 5, 0, 2, some .int, 3, 83, false, yX11_reckon, 50192, 50191, 104),
  (cX11_goes, 3, 0, 2, some .int, 2, 62, false, yX11_goes, 50120, 50119, 87),
  (cX11_newRow, 3, 0, 1, some .int, 2, 62, false, yX11_newRow, 50132, 50131, 90),
  (cX11_newCell, 1, 0, 1, some .int, 2, 62, false, yX11_newCell, 50136, 50135, 91),
  (cX11_cut_, 2, 1, 2, some .int, 1, 40, false, yX11_cut_, 50143, 50142, 0),
  (cX11_put, 3, 0, 1, some .int, 2, 62, false, yX11_put, 50140, 50139, 92),
  (cX11_get, 4, 0, 1, some .int, 2, 62, false, yX11_get, 50148, 50147, 93),
  (cX11_field, 3, 0, 1, some .int, 2, 62, false, yX11_field, 50156, 50155, 95),
  (cX11_fill, 3, 0, 1, some .int, 2, 62, false, yX11_fill, 50160, 50159, 96),
  (cX11_monitor, 6, 0, 2, some .int, 2, 62, false, yX11_monitor, 50172, 50171, 99),
  (cX11_call, 4, 0, 1, some .int, 3, 84, false, yX11_call, 50176, 50175, 100),
  (cX11_note, 2, 0, 1, some .int, 2, 62, false, yX11_note, 50180, 50179, 101),
  (cX11_ask, 2, 0, 1, some .int, 2, 62, false, yX11_ask, 50184, 50183, 102),
  (cX11_weigh, 5, 0, 1, some .int, 2, 62, false, yX11_weigh, 50188, 50187, 103),
  (cX11_same, 2, 0, 1, some .int, 2, 62, false, yX11_same, 50112, 50111, 85),
  (cX11_branch, 2, 0, 1, some .int, 3, 84, false, yX11_branch, 50124, 50123, 88),
  (cX11_length, 2, 0, 1, some .int, 2, 62, false, yX11_length, 50152, 50151, 94),
  (cX11_does, 3, 0, 2, some .int, 4, 107, false, yX11_does, 50104, 50103, 83),
  (cX11_settle, 1, 0, 1, none, 3, 85, false, yX11_settle, 50092, 50091, 80),
  (cX11_goOn, 4, 0, 1, none, 5, 129, false, yX11_goOn, 50100, 50099, 82),
  (cX11_start, 4, 0, 3, none, 4, 105, false, yX11_start, 50068, 50067, 74),
  (cX11_run, 3, 0, 3, some .int, 6, 152, false, yX11_run, 50064, 50062, 50063),
  (cX11_result, 2, 0, 2, some .int, 2, 62, false, yX11_result, 50204, 50202, 50203),
  (cX11_into, 3, 0, 2, some .int, 2, 62, false, yX11_into, 50212, 50210, 50211),
  (cX11_cell, 2, 0, 2, some .int, 2, 62, false, yX11_cell, 50216, 50214, 50215),
  (cX11_counted, 2, 0, 2, some .int, 2, 62, false, yX11_counted, 50220, 50218, 50219),
  (cX11_trace, 2, 0, 2, some .int, 2, 62, false, yX11_trace, 50224, 50222, 50223),
  (cX11_left, 1, 0, 1, some .int, 1, 40, false, yX11_left, 50228, 50226, 50227),
  (cX11_walk, 3, 0, 3, some .int, 5, 128, false, yX11_walk, 50232, 50230, 50231),
  (cX11_step, 3, 0, 2, some .int, 6, 152, false, yX11_step, 50236, 50234, 50235),
  (cX11_frame, 4, 0, 2, some .int, 2, 62, false, yX11_frame, 60000, 50238, 50239),
  (cX11_register, 4, 0, 3, some .int, 2, 62, false, yX11_register, 60004, 60002, 60003),
  (cX11_drop, 1, 0, 1, some .int, 3, 83, false, yX11_drop, 60008, 60006, 60007),
  (cX11_told, 2, 0, 2, some .int, 2, 62, false, yX11_told, 60012, 60010, 60011)]
def tbY12 : List MRow := [
  (code, 4, 1, 1, some .boolean, 9, 230, false, ⟨"MarkedStepsLaw", "law", "([I)Z"⟩, 0, 0, 0)]
def tbY : Nat → List MRow := fun c => match c with
  | 0 => tbY0
  | 1 => tbY1
  | 2 => tbY2
  | 3 => tbY3
  | 4 => tbY4
  | 5 => tbY5
  | 6 => tbY6
  | 7 => tbY7
  | 8 => tbY8
  | 9 => tbY9
  | 10 => tbY10
  | 11 => tbY11
  | 12 => tbY12
  | _ => []
def mrow (m : Nat) : MRow := (tbY (m / 100)).getD (m % 100) (⟨#[]⟩, 0, 9, 0, none, 0, 0, true, ⟨"", "", ""⟩, 0, 0, 0)
def mcl (m : Nat) : Nat := m / 100
def mb (m : Nat) : ByteArray := (mrow m).1
def mxl (m : Nat) : Nat := (mrow m).2.1
def mkd (m : Nat) : Nat := (mrow m).2.2.1
def mnp (m : Nat) : Nat := (mrow m).2.2.2.1
def mret (m : Nat) : Option FieldType := (mrow m).2.2.2.2.1
def mrf (m : Nat) : Nat := (mrow m).2.2.2.2.2.1
def mrl (m : Nat) : Nat := (mrow m).2.2.2.2.2.2.1
def mlong (m : Nat) : Bool := (mrow m).2.2.2.2.2.2.2.1
def my (m : Nat) : MethodName := (mrow m).2.2.2.2.2.2.2.2.1
/-- who is called must be an object of the method's own class -/
def rcv (m : Nat) (as : List Value) (k : Nat → Nat) : Bool := match mkd m == 1 with
  | true => true
  | false => match as with
    | .ref a :: _ => k a == mcl m + 1
    | _ => false
def mini (m : Nat) : Bool := mkd m == 2
def mrra (m : Nat) : Bool := match mret m with
  | some (.object _) => true
  | some (.array _) => true
  | _ => false
