/-! THE TABLES: by program out of the claim's own names and words. A method's number: 100 * its class + its place. -/
def tbF : Nat → List (Nat × (Nat × Nat × Bool) × Nat) := fun own => match own with
  | 0 => [(12, (0, 1, false), 30083), (18, (0, 0, false), 30081), (22, (0, 3, false), 30090), (26, (2, 2, true), 30180), (31, (2, 3, true), 30181), (34, (0, 2, false), 30086)]
  | 1 => [(11, (1, 0, false), 10164), (18, (1, 1, false), 10167), (22, (1, 2, false), 10169), (26, (1, 3, false), 10171), (30, (1, 4, false), 10173), (36, (4, 0, true), 10101), (45, (4, 2, true), 10108), (52, (4, 4, true), 10114)]
  | 3 => [(11, (3, 0, false), 10194), (20, (3, 2, false), 10199), (27, (3, 3, false), 10201), (31, (3, 4, false), 10202), (35, (3, 5, false), 10204), (40, (3, 6, false), 10205), (47, (3, 8, false), 10208), (51, (3, 10, false), 10211), (58, (3, 1, false), 10197), (62, (3, 7, false), 10206), (71, (1, 6, true), 10178), (74, (3, 12, false), 10215), (81, (3, 11, false), 10213), (119, (1, 4, true), 10174), (130, (4, 1, true), 10104), (133, (6, 1, true), 10040), (147, (1, 1, true), 10168), (160, (3, 15, false), 10221), (163, (1, 2, true), 10170), (174, (3, 14, false), 10219), (177, (1, 0, true), 10165), (181, (3, 9, false), 10210), (187, (4, 11, true), 10130), (190, (3, 13, false), 10217), (193, (4, 3, true), 10111), (196, (4, 5, true), 10118), (199, (4, 6, true), 10121), (202, (4, 4, true), 10115), (289, (8, 1, true), 10078), (312, (8, 3, true), 10085), (332, (7, 1, true), 30052), (335, (8, 2, true), 10081), (339, (0, 2, true), 30088), (342, (0, 1, true), 30085)]
  | 4 => [(9, (4, 3, false), 10109), (15, (4, 4, false), 10112), (18, (4, 5, false), 10116), (21, (4, 6, false), 10119), (24, (4, 8, false), 10125), (27, (4, 9, false), 10126), (30, (4, 10, false), 10127), (33, (4, 11, false), 10128), (36, (4, 2, false), 10105), (40, (4, 7, false), 10122)]
  | 5 => [(7, (0, 3, true), 30089), (13, (2, 1, true), 30178), (25, (2, 2, true), 30179), (29, (1, 6, true), 10177), (34, (5, 0, false), 10061), (38, (2, 4, true), 30183), (41, (2, 0, true), 30177), (45, (2, 3, true), 30182), (48, (1, 5, true), 10176)]
  | 6 => [(9, (6, 0, false), 10037), (15, (6, 1, false), 10039), (18, (6, 3, false), 10043), (22, (6, 2, false), 10042)]
  | 7 => [(9, (7, 0, false), 30047), (21, (7, 1, false), 30050), (24, (7, 2, false), 30053), (28, (7, 3, false), 30055), (43, (8, 0, true), 10074), (46, (8, 3, true), 10083), (50, (8, 1, true), 10077)]
  | 8 => [(9, (8, 0, false), 10073), (15, (8, 1, false), 10076), (18, (8, 2, false), 10079), (22, (8, 3, false), 10082), (29, (0, 0, true), 30082), (34, (7, 0, true), 30048), (43, (0, 2, true), 30087), (46, (7, 1, true), 30051)]
  | 9 => [(9, (9, 0, false), 20022), (15, (4, 0, true), 10100), (25, (9, 1, false), 20023), (33, (4, 2, true), 10106), (47, (4, 3, true), 10110), (53, (4, 4, true), 10113), (56, (4, 5, true), 10117), (59, (4, 7, true), 10124), (66, (4, 11, true), 10129), (75, (4, 6, true), 10120), (78, (3, 0, true), 10196)]
  | 10 => [(10, (10, 0, false), 20031), (19, (10, 1, false), 20032), (25, (10, 2, false), 20033), (38, (3, 1, true), 10198), (42, (3, 0, true), 10195), (46, (4, 0, true), 10102), (62, (4, 2, true), 10107), (69, (4, 7, true), 10123), (75, (3, 2, true), 10200), (79, (6, 0, true), 10038), (89, (4, 1, true), 10103), (92, (3, 4, true), 10203), (102, (3, 8, true), 10209), (123, (8, 0, true), 10075), (130, (8, 2, true), 10080), (139, (0, 1, true), 30084), (142, (8, 3, true), 10084), (146, (7, 0, true), 30049), (158, (7, 2, true), 30054), (161, (6, 1, true), 10041), (164, (3, 11, true), 10214), (167, (3, 10, true), 10212), (170, (6, 3, true), 10044), (177, (3, 7, true), 10207), (180, (1, 3, true), 10172), (185, (1, 4, true), 10175), (191, (1, 0, true), 10166), (197, (3, 12, true), 10216), (200, (3, 13, true), 10218), (203, (3, 14, true), 10220), (206, (3, 15, true), 10222)]
  | 11 => [(7, (11, 1, false), 40088), (13, (11, 2, false), 40089), (16, (11, 3, false), 40090), (19, (11, 4, false), 40091), (22, (11, 5, false), 40092), (25, (11, 6, false), 40093), (28, (11, 7, false), 40094), (31, (11, 9, false), 40096), (34, (11, 11, false), 40098), (37, (11, 12, false), 40099), (40, (11, 13, false), 40100), (43, (11, 14, false), 40101), (46, (11, 18, false), 40105), (49, (11, 19, false), 40106), (52, (11, 20, false), 40107), (55, (11, 21, false), 40108), (58, (11, 22, false), 40109), (61, (11, 24, false), 40111), (64, (11, 25, false), 40112), (67, (11, 26, false), 40113), (70, (11, 27, false), 40114), (73, (11, 30, false), 40117), (76, (11, 31, false), 40118), (79, (11, 32, false), 40119), (82, (11, 33, false), 40120), (85, (11, 34, false), 40121), (88, (11, 35, false), 40122), (92, (11, 36, false), 40123), (95, (11, 39, false), 40126), (98, (11, 40, false), 40127), (101, (11, 43, false), 40130), (104, (11, 38, false), 40125), (108, (11, 0, false), 40087), (115, (11, 8, false), 40095), (131, (11, 10, false), 40097), (147, (11, 15, false), 40102), (150, (11, 16, false), 40103), (157, (11, 37, false), 40124), (160, (11, 41, false), 40128), (163, (11, 17, false), 40104), (174, (11, 29, false), 40116), (180, (11, 44, false), 40131), (186, (11, 42, false), 40129), (189, (11, 45, false), 40132), (192, (11, 46, false), 40133), (195, (11, 47, false), 40134), (201, (11, 48, false), 40135), (213, (11, 23, false), 40110), (216, (11, 28, false), 40115)]
  | _ => []
def tbS : Nat → List (Nat × (Nat × Bool) × Nat) := fun own => match own with
  | 9 => [(50, (3, true), 20110), (86, (2, true), 20126)]
  | 10 => [(209, (2, false), 20063), (212, (3, false), 20065)]
  | _ => []
def tbM : Nat → List (Nat × (Nat × Bool) × Nat) := fun own => match own with
  | 0 => [(3, (9000, false), 30078), (11, (800, true), 30080)]
  | 1 => [(3, (9000, false), 10160), (17, (800, true), 10163), (33, (801, true), 20192), (41, (805, true), 20193), (48, (103, false), 20225), (56, (102, false), 20226)]
  | 2 => [(1, (9000, false), 30176)]
  | 3 => [(3, (9000, false), 10028), (19, (600, true), 10033), (26, (500, true), 10057), (46, (800, true), 10069), (54, (400, true), 10096), (55, (100, true), 10157), (65, (9001, false), 20194), (77, (601, true), 20168), (84, (801, true), 20172), (87, (9002, false), 20173), (93, (308, false), 20176), (97, (310, false), 20201), (101, (313, false), 20231), (104, (307, false), 30000), (107, (303, false), 20205), (111, (315, false), 30004), (115, (311, false), 40003), (122, (603, true), 20180), (126, (101, true), 20188), (136, (314, false), 20197), (139, (504, true), 20217), (143, (103, true), 20209), (150, (309, false), 20213), (153, (105, true), 20221), (157, (805, true), 20230), (167, (404, true), 40007), (170, (312, false), 40012), (184, (802, true), 30009), (205, (102, true), 30008), (209, (808, true), 30010), (213, (318, false), 30014), (217, (319, false), 30018), (221, (320, false), 30030), (225, (321, false), 30069), (229, (322, false), 30104), (233, (323, false), 30130), (236, (324, false), 30140), (240, (325, false), 30143), (243, (326, false), 30150), (247, (807, true), 30153), (250, (806, true), 30158), (253, (327, false), 30159), (257, (328, false), 30195), (260, (329, false), 30203), (264, (330, false), 30207), (267, (104, true), 30212), (270, (331, false), 30216), (273, (332, false), 30224), (276, (333, false), 30228), (279, (317, false), 40000), (283, (811, true), 30022), (286, (316, false), 30220), (292, (604, true), 30034), (297, (700, true), 30040), (300, (804, true), 30065), (306, (0, true), 30075), (308, (803, true), 30100), (316, (810, true), 30107), (319, (703, true), 30108), (322, (701, true), 30117), (325, (704, true), 30121), (329, (705, true), 30133), (345, (1, true), 30146), (348, (501, true), 30163), (351, (502, true), 30199), (354, (301, false), 30211), (357, (1025, true), 30223), (361, (3, true), 30232), (364, (4, true), 30236)]
  | 4 => [(3, (9000, false), 10099), (43, (403, false), 40011)]
  | 5 => [(1, (9000, false), 10060), (19, (503, false), 30167), (37, (200, true), 30173)]
  | 6 => [(3, (9000, false), 10036), (25, (602, false), 20184)]
  | 7 => [(3, (9000, false), 30043), (15, (9001, false), 30044), (33, (811, true), 30112), (39, (806, true), 30113), (53, (702, false), 30125), (57, (802, true), 30137), (61, (801, true), 30138), (64, (804, true), 30139)]
  | 8 => [(3, (9000, false), 10072), (26, (801, false), 20151), (39, (806, false), 30157), (49, (810, false), 30026)]
  | 9 => [(3, (9000, false), 20021), (21, (905, false), 20098), (29, (902, false), 20102), (36, (906, false), 20119), (40, (903, false), 20106), (44, (904, false), 20111), (62, (403, true), 20115), (69, (301, true), 20122), (82, (907, false), 20123)]
  | 10 => [(1, (9000, false), 10020), (9, (300, true), 10025), (18, (900, true), 20018), (29, (800, true), 20030), (30, (1025, false), 20045), (34, (302, true), 20048), (51, (301, true), 20056), (55, (1026, false), 20060), (59, (1027, false), 20067), (65, (401, true), 20070), (72, (402, true), 20078), (85, (901, true), 20094), (95, (801, true), 20143), (98, (802, true), 20147), (106, (805, true), 20152), (110, (1024, false), 20160), (114, (305, true), 20164), (119, (306, true), 20236), (126, (809, true), 40020), (134, (2, true), 40024), (151, (701, true), 40032), (154, (705, true), 40033), (173, (303, true), 40062), (188, (304, true), 40063), (194, (313, true), 40075)]
  | 11 => [(1, (9000, false), 40085), (111, (1101, false), 40239), (119, (1104, false), 50013), (123, (1102, false), 50006), (127, (1105, false), 50010), (134, (1112, false), 50036), (137, (1110, false), 50040), (141, (1113, false), 50032), (144, (1111, false), 50044), (153, (1119, false), 50168), (166, (1122, false), 50076), (170, (1123, false), 50080), (177, (1124, false), 50088), (183, (1126, false), 50084), (198, (1130, false), 50128), (204, (1132, false), 50196), (208, (1131, false), 50116), (211, (1129, false), 50108), (220, (1137, false), 50144), (223, (1125, false), 50072), (226, (1134, false), 50120), (229, (1147, false), 50112), (232, (1148, false), 50124), (235, (1135, false), 50132), (238, (1136, false), 50136), (241, (1138, false), 50140), (244, (1139, false), 50148), (247, (1149, false), 50152), (250, (1140, false), 50156), (253, (1141, false), 50160), (256, (1121, false), 50164), (259, (1142, false), 50172), (263, (1143, false), 50176), (266, (1144, false), 50180), (269, (1145, false), 50184), (272, (1146, false), 50188), (275, (1133, false), 50192), (278, (1127, false), 50096), (281, (1150, false), 50104), (284, (1128, false), 50200), (287, (1151, false), 50092), (290, (1153, false), 50068), (293, (1152, false), 50100), (296, (1120, false), 50208)]
  | 12 => [(9, (1000, false), 10017), (12, (1100, false), 40082), (13, (1001, false), 20041), (17, (1103, false), 40235), (18, (1002, false), 20052), (22, (1106, false), 50002), (23, (1003, false), 20074), (26, (1107, false), 50016), (27, (1004, false), 20082), (30, (1108, false), 50020), (31, (1005, false), 20086), (35, (1109, false), 50024), (36, (1006, false), 20090), (39, (1114, false), 50028), (40, (1007, false), 20127), (43, (1115, false), 50048), (44, (1008, false), 20131), (47, (1116, false), 50052), (48, (1009, false), 20135), (51, (1117, false), 50056), (52, (1010, false), 20139), (56, (1118, false), 50060), (57, (1011, false), 20156), (60, (1154, false), 50064), (61, (1012, false), 40016), (64, (1155, false), 50204), (65, (1013, false), 40028), (68, (1156, false), 50212), (69, (1014, false), 40034), (72, (1157, false), 50216), (73, (1015, false), 40038), (76, (1158, false), 50220), (77, (1016, false), 40042), (80, (1159, false), 50224), (81, (1017, false), 40046), (85, (1160, false), 50228), (86, (1018, false), 40050), (89, (1161, false), 50232), (90, (1019, false), 40054), (93, (1162, false), 50236), (94, (1020, false), 40058), (97, (1163, false), 60000), (98, (1021, false), 40067), (101, (1164, false), 60004), (102, (1022, false), 40071), (105, (1165, false), 60008), (106, (1023, false), 40076), (109, (1166, false), 60012)]
  | _ => []
def tbK : Nat → List (Nat × Nat × Nat) := fun own => match own with
  | 0 => [(9, 8, 30079)]
  | 1 => [(9, 8, 10161)]
  | 3 => [(9, 4, 10029), (17, 6, 10031), (24, 5, 10055), (38, 1, 10065), (44, 8, 10067), (295, 7, 30038), (304, 0, 30073)]
  | 5 => [(14, 2, 30171)]
  | 7 => [(10, 7, 30045)]
  | 10 => [(7, 3, 10023), (16, 9, 20016), (23, 8, 20029)]
  | 12 => [(7, 10, 10015), (10, 11, 40080)]
  | _ => []
def tbC : Nat → List (Nat × Int32 × Nat) := fun own => match own with
  | 7 => [(32, 65535, 30129)]
  | 10 => [(118, 1000000, 20235)]
  | 11 => [(91, 72000, 40086), (219, 65535, 50147)]
  | _ => []
def lkF (own idx : Nat) : Option (Nat × Nat × Bool) := ((tbF own).find? (fun e => e.1 == idx)).map (fun e => e.2.1)
def lkS (own idx : Nat) : Option (Nat × Bool) := ((tbS own).find? (fun e => e.1 == idx)).map (fun e => e.2.1)
def lkM (own idx : Nat) : Option (Nat × Bool) := ((tbM own).find? (fun e => e.1 == idx)).map (fun e => e.2.1)
def lkK (own idx : Nat) : Option (Nat) := ((tbK own).find? (fun e => e.1 == idx)).map (fun e => e.2.1)
def lkC (own idx : Nat) : Option (Int32) := ((tbC own).find? (fun e => e.1 == idx)).map (fun e => e.2.1)
def cname : Nat → String := fun c => match c with
  | 0 => RX0
  | 1 => RX1
  | 2 => RX2
  | 3 => RX3
  | 4 => RX4
  | 5 => RX5
  | 6 => RX6
  | 7 => RX7
  | 8 => RX8
  | 9 => RX9
  | 10 => RX10
  | 11 => RX11
  | _ => "MarkedStepsLaw"
def fnum : Nat → Nat := fun c => match c with
  | 0 => 4
  | 1 => 7
  | 2 => 5
  | 3 => 16
  | 4 => 12
  | 5 => 1
  | 6 => 4
  | 7 => 4
  | 8 => 4
  | 9 => 2
  | 10 => 3
  | 11 => 49
  | _ => 0
def ftab : Nat → u_T := fun c => match c with
  | 0 => TX0
  | 1 => TX1
  | 2 => TX2
  | 3 => TX3
  | 4 => TX4
  | 5 => TX5
  | 6 => TX6
  | 7 => TX7
  | 8 => TX8
  | 9 => TX9
  | 10 => TX10
  | _ => TX11
def fty : Nat → Nat → FieldType := fun c => match c with
  | 0 => tyX0
  | 1 => tyX1
  | 2 => tyX2
  | 3 => tyX3
  | 4 => tyX4
  | 5 => tyX5
  | 6 => tyX6
  | 7 => tyX7
  | 8 => tyX8
  | 9 => tyX9
  | 10 => tyX10
  | _ => tyX11
def ffin (c k : Nat) : Bool := (ftab c k).2.2.2
/-- classes of which there are arrays: class, place of the word -/
def tbO : List (Nat × Nat) := [(1, 10066), (4, 10030), (7, 30046), (8, 10162)]
def lkO (ci : Nat) : Bool := tbO.any (fun e => e.1 == ci)
abbrev MRow : Type := ByteArray × Nat × Nat × Nat × Option FieldType × Nat × Nat × Bool × MethodName × Nat × Nat × Nat
def tbY0 : List MRow := [
  (cX0_init, 2, 2, 2, none, 2, 60, false, yX0_init, 30077, 30076, 0),
  (cX0_otherMark, 1, 0, 1, some .int, 1, 40, false, yX0_otherMark, 30149, 30148, 48),
  (cX0_timesHeld, 3, 0, 1, some .int, 1, 40, false, yX0_timesHeld, 40027, 40026, 67),
  (cX0_bodiesOfWeight, 1, 0, 1, some .int, 1, 40, false, yX0_bodiesOfWeight, 30235, 30234, 61),
  (cX0_weight, 3, 0, 1, some .int, 1, 40, false, yX0_weight, 30239, 30238, 62)]
def tbY1 : List MRow := [
  (cX1_init, 3, 2, 2, none, 2, 60, false, yX1_init, 10159, 10158, 0),
  (cX1_begin, 6, 0, 5, none, 2, 61, false, yX1_begin, 20191, 20190, 19),
  (cX1_named, 2, 0, 2, some (.object "MarkedSteps$Slot"), 1, 40, false, yX1_named, 20229, 20228, 27),
  (cX1_isBehindItsActs, 1, 0, 1, some .boolean, 1, 40, false, yX1_isBehindItsActs, 20212, 20211, 23),
  (cX1_give, 2, 0, 2, none, 2, 61, false, yX1_give, 30215, 30214, 57),
  (cX1_takeGiven, 2, 0, 2, none, 2, 61, false, yX1_takeGiven, 20224, 20223, 26)]
def tbY2 : List MRow := [
  (cX2_init, 1, 2, 1, none, 1, 40, false, yX2_init, 30175, 30174, 0)]
def tbY3 : List MRow := [
  (cX3_init, 2, 2, 1, none, 3, 82, false, yX3_init, 10027, 10026, 0),
  (cX3_lacksMember, 2, 0, 2, some .boolean, 1, 40, false, yX3_lacksMember, 20059, 20058, 1),
  (cX3_isWalked, 1, 0, 1, some .boolean, 1, 40, false, yX3_isWalked, 20051, 20050, 0),
  (cX3_top, 1, 0, 1, some (.object "MarkedSteps$Frame"), 1, 40, false, yX3_top, 20208, 20207, 22),
  (cX3_holdings, 3, 0, 1, some .int, 1, 40, false, yX3_holdings, 40066, 40065, 68),
  (cX3_begin, 4, 0, 4, some .int, 4, 110, false, yX3_begin, 20167, 20166, 14),
  (cX3_doActs, 4, 0, 2, some .int, 7, 183, false, yX3_doActs, 20239, 20238, 29),
  (cX3_doOneAct, 3, 0, 1, some .int, 6, 161, false, yX3_doOneAct, 30003, 30002, 30),
  (cX3_beginFrame, 5, 0, 4, some .boolean, 3, 86, false, yX3_beginFrame, 20179, 20178, 16),
  (cX3_endFrame, 2, 0, 1, none, 2, 63, false, yX3_endFrame, 20216, 20215, 24),
  (cX3_endFramesBehindTheirActs, 3, 0, 1, some .int, 3, 84, false, yX3_endFramesBehindTheirActs, 20204, 20203, 21),
  (cX3_goToHandler, 5, 0, 2, some .int, 4, 106, false, yX3_goToHandler, 40006, 40005, 63),
  (cX3_beginHandler, 4, 0, 4, some .int, 3, 83, false, yX3_beginHandler, 40015, 40014, 65),
  (cX3_stop, 2, 0, 1, some .int, 3, 84, false, yX3_stop, 20234, 20233, 28),
  (cX3_keepTrace, 2, 0, 2, none, 1, 40, false, yX3_keepTrace, 20200, 20199, 20),
  (cX3_perform, 9, 0, 2, some .int, 5, 133, false, yX3_perform, 30007, 30006, 31),
  (cX3_misfitAsNumbers, 3, 1, 2, some .int, 3, 80, false, yX3_misfitAsNumbers, 30222, 30221, 0),
  (cX3_reckon, 7, 1, 4, some .int, 4, 102, false, yX3_reckon, 40002, 40001, 0),
  (cX3_goTo, 3, 0, 3, some .int, 3, 83, false, yX3_goTo, 30017, 30016, 33),
  (cX3_branch, 5, 0, 4, some .int, 4, 105, false, yX3_branch, 30021, 30020, 34),
  (cX3_makeRow, 6, 0, 4, some .int, 3, 83, false, yX3_makeRow, 30033, 30032, 37),
  (cX3_makeCell, 3, 0, 3, some .int, 3, 83, false, yX3_makeCell, 30072, 30071, 40),
  (cX3_put, 5, 1, 3, some .int, 4, 101, false, yX3_put, 30106, 30105, 0),
  (cX3_get, 5, 1, 3, some .int, 4, 103, false, yX3_get, 30132, 30131, 0),
  (cX3_length, 3, 1, 2, some .int, 3, 81, false, yX3_length, 30142, 30141, 0),
  (cX3_field, 4, 1, 3, some .int, 3, 81, false, yX3_field, 30145, 30144, 0),
  (cX3_fill, 5, 1, 3, some .int, 3, 80, false, yX3_fill, 30152, 30151, 0),
  (cX3_enter, 4, 0, 3, some .int, 4, 106, false, yX3_enter, 30162, 30161, 50),
  (cX3_leave, 4, 0, 3, some .int, 2, 63, false, yX3_leave, 30198, 30197, 53),
  (cX3_throwOwn, 3, 0, 2, some .int, 3, 80, false, yX3_throwOwn, 30206, 30205, 55),
  (cX3_call, 4, 0, 4, some .int, 4, 110, false, yX3_call, 30210, 30209, 56),
  (cX3_note, 4, 0, 3, some .int, 4, 102, false, yX3_note, 30219, 30218, 58),
  (cX3_ask, 4, 0, 3, some .int, 3, 81, false, yX3_ask, 30227, 30226, 59),
  (cX3_weigh, 6, 0, 3, some .int, 3, 83, false, yX3_weigh, 30231, 30230, 60)]
def tbY4 : List MRow := [
  (cX4_init, 1, 2, 1, none, 1, 40, false, yX4_init, 10098, 10097, 0),
  (cX4_addAct, 5, 0, 5, some .int, 1, 40, false, yX4_addAct, 20073, 20072, 2),
  (cX4_addHandler, 5, 0, 5, some .int, 1, 40, false, yX4_addHandler, 20081, 20080, 3),
  (cX4_handlerHas, 3, 0, 3, some .boolean, 1, 40, false, yX4_handlerHas, 20118, 20117, 9),
  (cX4_firstHandlerOf, 4, 0, 3, some .int, 2, 62, false, yX4_firstHandlerOf, 40010, 40009, 64)]
def tbY5 : List MRow := [
  (cX5_init, 1, 2, 1, none, 1, 40, false, yX5_init, 10059, 10058, 0),
  (cX5_enter, 4, 0, 3, none, 3, 83, false, yX5_enter, 30166, 30165, 51),
  (cX5_leave, 4, 0, 3, some .boolean, 1, 40, false, yX5_leave, 30202, 30201, 54),
  (cX5_newHold, 4, 0, 3, some (.object "MarkedSteps$Hold"), 2, 60, false, yX5_newHold, 30170, 30169, 52),
  (cX5_leaveAll, 4, 0, 2, none, 1, 40, false, yX5_leaveAll, 20220, 20219, 25)]
def tbY6 : List MRow := [
  (cX6_init, 1, 2, 1, none, 1, 40, false, yX6_init, 10035, 10034, 0),
  (cX6_open, 3, 0, 2, none, 1, 40, false, yX6_open, 20171, 20170, 15),
  (cX6_takes, 3, 0, 2, some .boolean, 1, 40, true, yX6_takes, 20187, 20186, 18),
  (cX6_paysFor, 2, 0, 2, some .boolean, 2, 62, false, yX6_paysFor, 20183, 20182, 17),
  (cX6_paysForRow, 2, 0, 2, some .boolean, 2, 62, false, yX6_paysForRow, 30037, 30036, 38)]
def tbY7 : List MRow := [
  (cX7_init, 3, 2, 3, none, 1, 40, false, yX7_init, 30042, 30041, 0),
  (cX7_lacksCell, 2, 0, 2, some .boolean, 1, 40, false, yX7_lacksCell, 30120, 30119, 44),
  (cX7_narrowed, 2, 0, 2, some .int, 1, 40, false, yX7_narrowed, 30128, 30127, 46),
  (cX7_misfitInCell, 2, 0, 2, some .int, 3, 80, false, yX7_misfitInCell, 30111, 30110, 42),
  (cX7_copyFrom, 3, 0, 3, none, 2, 61, false, yX7_copyFrom, 30124, 30123, 45),
  (cX7_copyTo, 3, 0, 3, none, 3, 81, false, yX7_copyTo, 30136, 30135, 47)]
def tbY8 : List MRow := [
  (cX8_init, 1, 2, 1, none, 1, 40, false, yX8_init, 10071, 10070, 0),
  (cX8_becomeNothing, 1, 0, 1, none, 1, 40, false, yX8_becomeNothing, 20146, 20145, 10),
  (cX8_becomeNumber, 2, 0, 2, none, 2, 60, false, yX8_becomeNumber, 20150, 20149, 11),
  (cX8_becomeCell, 2, 0, 2, none, 2, 60, false, yX8_becomeCell, 30103, 30102, 41),
  (cX8_becomeRow, 2, 0, 2, none, 2, 60, false, yX8_becomeRow, 30068, 30067, 39),
  (cX8_copy, 2, 0, 2, none, 1, 40, false, yX8_copy, 20155, 20154, 12),
  (cX8_isNothing, 1, 0, 1, some .boolean, 1, 40, false, yX8_isNothing, 30116, 30115, 43),
  (cX8_isOf, 2, 0, 2, some .boolean, 2, 60, false, yX8_isOf, 30156, 30155, 49),
  (cX8_isSameAs, 2, 0, 2, some .boolean, 1, 40, false, yX8_isSameAs, 30013, 30012, 32),
  (cX8_measure, 1, 0, 1, some .int, 1, 40, false, yX8_measure, 40023, 40022, 66),
  (cX8_misfit, 1, 0, 1, some .int, 1, 40, false, yX8_misfit, 30029, 30028, 36),
  (cX8_misfitAsNumber, 1, 0, 1, some .int, 2, 60, false, yX8_misfitAsNumber, 30025, 30024, 35)]
def tbY9 : List MRow := [
  (cX9_init, 1, 2, 1, none, 1, 40, false, yX9_init, 20020, 20019, 0),
  (cX9_leastActThatLooksAtUnset, 4, 0, 3, some .int, 4, 110, false, yX9_leastActThatLooksAtUnset, 20097, 20096, 4),
  (cX9_passOver, 3, 0, 2, none, 3, 88, false, yX9_passOver, 20105, 20104, 6),
  (cX9_goOn, 5, 0, 3, none, 2, 64, false, yX9_goOn, 20109, 20108, 7),
  (cX9_goToHandlers, 4, 0, 3, none, 2, 64, false, yX9_goToHandlers, 20114, 20113, 8),
  (cX9_comeTo, 5, 0, 4, none, 1, 40, false, yX9_comeTo, 20101, 20100, 5),
  (cX9_lookedAt, 5, 1, 3, some .int, 2, 62, false, yX9_lookedAt, 20121, 20120, 0),
  (cX9_passedOn, 3, 1, 2, some .int, 1, 40, false, yX9_passedOn, 20125, 20124, 0)]
def tbY10 : List MRow := [
  (cX10_init, 2, 2, 1, none, 4, 103, false, yX10_init, 10019, 10018, 0),
  (cX10_member, 3, 0, 2, some .int, 2, 62, false, yX10_member, 20044, 20042, 20043),
  (cX10_act, 7, 0, 6, some .int, 3, 86, false, yX10_act, 20055, 20053, 20054),
  (cX10_handler, 7, 0, 6, some .int, 2, 64, false, yX10_handler, 20077, 20075, 20076),
  (cX10_cut, 3, 0, 2, some .int, 2, 61, false, yX10_cut, 20085, 20083, 20084),
  (cX10_price, 4, 0, 3, some .int, 2, 62, false, yX10_price, 20089, 20087, 20088),
  (cX10_verify, 2, 0, 2, some .int, 5, 133, false, yX10_verify, 20093, 20091, 20092),
  (cX10_info, 4, 0, 3, some .int, 2, 61, false, yX10_info, 20130, 20128, 20129),
  (cX10_set, 4, 0, 3, some .int, 2, 62, false, yX10_set, 20134, 20132, 20133),
  (cX10_plan, 2, 0, 2, some .int, 2, 62, false, yX10_plan, 20138, 20136, 20137),
  (cX10_argument, 4, 0, 4, some .int, 3, 81, false, yX10_argument, 20142, 20140, 20141),
  (cX10_run, 5, 0, 3, some .int, 8, 206, false, yX10_run, 20159, 20157, 20158),
  (cX10_result, 3, 0, 2, some .int, 2, 62, false, yX10_result, 40019, 40017, 40018),
  (cX10_into, 5, 0, 2, some .int, 4, 103, false, yX10_into, 40031, 40029, 40030),
  (cX10_cell, 3, 0, 2, some .int, 2, 61, false, yX10_cell, 40037, 40035, 40036),
  (cX10_counted, 2, 0, 2, some .int, 2, 62, false, yX10_counted, 40041, 40039, 40040),
  (cX10_trace, 2, 0, 2, some .int, 1, 40, false, yX10_trace, 40045, 40043, 40044),
  (cX10_left, 1, 0, 1, some .int, 1, 40, false, yX10_left, 40049, 40047, 40048),
  (cX10_walk, 4, 0, 3, some .int, 5, 133, false, yX10_walk, 40053, 40051, 40052),
  (cX10_step, 2, 0, 2, some .int, 8, 206, false, yX10_step, 40057, 40055, 40056),
  (cX10_frame, 3, 0, 2, some .int, 2, 62, false, yX10_frame, 40061, 40059, 40060),
  (cX10_register, 4, 0, 3, some .int, 2, 62, false, yX10_register, 40070, 40068, 40069),
  (cX10_drop, 1, 0, 1, some .int, 4, 105, false, yX10_drop, 40074, 40072, 40073),
  (cX10_told, 2, 0, 2, some .int, 2, 60, false, yX10_told, 40079, 40077, 40078),
  (cX10_refusalToBegin, 3, 0, 3, some .int, 2, 62, false, yX10_refusalToBegin, 20163, 20162, 13),
  (cX10_isOutside, 3, 1, 3, some .boolean, 1, 40, false, yX10_isOutside, 20047, 20046, 0),
  (cX10_namesWrongRegister, 5, 1, 4, some .boolean, 2, 62, false, yX10_namesWrongRegister, 20062, 20061, 0),
  (cX10_namesWrongNumber, 4, 1, 4, some .boolean, 2, 62, false, yX10_namesWrongNumber, 20069, 20068, 0)]
def tbY11 : List MRow := [
  (cX11_init, 2, 2, 1, none, 1, 40, false, yX11_init, 40084, 40083, 0),
  (cX11_in, 3, 1, 3, some .boolean, 1, 40, false, yX11_in, 50001, 50000, 0),
  (cX11_isMember, 2, 0, 2, some .boolean, 2, 62, false, yX11_isMember, 50009, 50008, 69),
  (cX11_member, 2, 0, 2, some .int, 2, 62, false, yX11_member, 40238, 40236, 40237),
  (cX11_named, 1, 1, 1, some .int, 1, 40, false, yX11_named, 50015, 50014, 0),
  (cX11_isGood, 5, 1, 4, some .boolean, 2, 62, false, yX11_isGood, 50012, 50011, 0),
  (cX11_act, 7, 0, 6, some .int, 3, 86, false, yX11_act, 50005, 50003, 50004),
  (cX11_handler, 7, 0, 6, some .int, 3, 83, false, yX11_handler, 50019, 50017, 50018),
  (cX11_cut, 2, 0, 2, some .int, 3, 83, false, yX11_cut, 50023, 50021, 50022),
  (cX11_price, 4, 0, 3, some .int, 2, 62, false, yX11_price, 50027, 50025, 50026),
  (cX11_comes, 3, 0, 3, none, 1, 40, false, yX11_comes, 50043, 50042, 72),
  (cX11_looked, 9, 0, 2, some .int, 3, 83, false, yX11_looked, 50047, 50046, 73),
  (cX11_makes, 4, 0, 2, some .int, 1, 40, false, yX11_makes, 50039, 50038, 71),
  (cX11_spread, 8, 0, 3, none, 2, 63, false, yX11_spread, 50035, 50034, 70),
  (cX11_verify, 3, 0, 2, some .int, 4, 111, false, yX11_verify, 50031, 50029, 50030),
  (cX11_info, 3, 0, 3, some .int, 3, 83, false, yX11_info, 50051, 50049, 50050),
  (cX11_set, 4, 0, 3, some .int, 2, 62, false, yX11_set, 50055, 50053, 50054),
  (cX11_plan, 2, 0, 2, some .int, 2, 62, false, yX11_plan, 50059, 50057, 50058),
  (cX11_argument, 4, 0, 4, some .int, 2, 62, false, yX11_argument, 50063, 50061, 50062),
  (cX11_kindOf, 3, 0, 3, some .int, 1, 40, false, yX11_kindOf, 50171, 50170, 98),
  (cX11_toldOf, 3, 0, 3, some .int, 1, 40, false, yX11_toldOf, 50211, 50210, 107),
  (cX11_isOf, 5, 0, 4, some .boolean, 2, 62, false, yX11_isOf, 50167, 50166, 97),
  (cX11_pays, 3, 0, 2, some .boolean, 1, 40, true, yX11_pays, 50079, 50078, 76),
  (cX11_traces, 2, 0, 2, none, 1, 40, false, yX11_traces, 50083, 50082, 77),
  (cX11_release, 3, 0, 2, none, 1, 40, false, yX11_release, 50091, 50090, 79),
  (cX11_begins, 3, 0, 3, some .boolean, 2, 62, false, yX11_begins, 50075, 50074, 75),
  (cX11_stops, 2, 0, 1, none, 2, 62, false, yX11_stops, 50087, 50086, 78),
  (cX11_gives, 4, 0, 3, none, 2, 62, false, yX11_gives, 50099, 50098, 81),
  (cX11_throwsIt, 5, 0, 2, none, 3, 83, false, yX11_throwsIt, 50203, 50202, 106),
  (cX11_makes_, 3, 0, 3, none, 1, 40, false, yX11_makes_, 50111, 50110, 84),
  (cX11_against, 3, 0, 3, some .int, 1, 40, false, yX11_against, 50131, 50130, 89),
  (cX11_value, 2, 0, 2, some .int, 1, 40, false, yX11_value, 50119, 50118, 86),
  (cX11_againstBoth, 2, 0, 1, some .int, 2, 62, false, yX11_againstBoth, 50199, 50198, 105),
  (cX11_reckon, 5, 0, 2, some .int, 3, 83, false, yX11_reckon, 50195, 50194, 104),
  (cX11_goes, 3, 0, 2, some .int, 2, 62, false, yX11_goes, 50123, 50122, 87),
  (cX11_newRow, 3, 0, 1, some .int, 2, 62, false, yX11_newRow, 50135, 50134, 90),
  (cX11_newCell, 1, 0, 1, some .int, 2, 62, false, yX11_newCell, 50139, 50138, 91),
  (cX11_cut_, 2, 1, 2, some .int, 1, 40, false, yX11_cut_, 50146, 50145, 0),
  (cX11_put, 3, 0, 1, some .int, 2, 62, false, yX11_put, 50143, 50142, 92),
  (cX11_get, 4, 0, 1, some .int, 2, 62, false, yX11_get, 50151, 50150, 93),
  (cX11_field, 3, 0, 1, some .int, 2, 62, false, yX11_field, 50159, 50158, 95),
  (cX11_fill, 3, 0, 1, some .int, 2, 62, false, yX11_fill, 50163, 50162, 96),
  (cX11_monitor, 6, 0, 2, some .int, 2, 62, false, yX11_monitor, 50175, 50174, 99),
  (cX11_call, 4, 0, 1, some .int, 3, 84, false, yX11_call, 50179, 50178, 100),
  (cX11_note, 2, 0, 1, some .int, 2, 62, false, yX11_note, 50183, 50182, 101),
  (cX11_ask, 2, 0, 1, some .int, 2, 62, false, yX11_ask, 50187, 50186, 102),
  (cX11_weigh, 5, 0, 1, some .int, 2, 62, false, yX11_weigh, 50191, 50190, 103),
  (cX11_same, 2, 0, 1, some .int, 2, 62, false, yX11_same, 50115, 50114, 85),
  (cX11_branch, 2, 0, 1, some .int, 3, 84, false, yX11_branch, 50127, 50126, 88),
  (cX11_length, 2, 0, 1, some .int, 2, 62, false, yX11_length, 50155, 50154, 94),
  (cX11_does, 3, 0, 2, some .int, 4, 107, false, yX11_does, 50107, 50106, 83),
  (cX11_settle, 1, 0, 1, none, 3, 85, false, yX11_settle, 50095, 50094, 80),
  (cX11_goOn, 4, 0, 1, none, 5, 129, false, yX11_goOn, 50103, 50102, 82),
  (cX11_start, 4, 0, 3, none, 4, 105, false, yX11_start, 50071, 50070, 74),
  (cX11_run, 3, 0, 3, some .int, 6, 152, false, yX11_run, 50067, 50065, 50066),
  (cX11_result, 2, 0, 2, some .int, 2, 62, false, yX11_result, 50207, 50205, 50206),
  (cX11_into, 3, 0, 2, some .int, 2, 62, false, yX11_into, 50215, 50213, 50214),
  (cX11_cell, 2, 0, 2, some .int, 2, 62, false, yX11_cell, 50219, 50217, 50218),
  (cX11_counted, 2, 0, 2, some .int, 2, 62, false, yX11_counted, 50223, 50221, 50222),
  (cX11_trace, 2, 0, 2, some .int, 2, 62, false, yX11_trace, 50227, 50225, 50226),
  (cX11_left, 1, 0, 1, some .int, 1, 40, false, yX11_left, 50231, 50229, 50230),
  (cX11_walk, 3, 0, 3, some .int, 5, 128, false, yX11_walk, 50235, 50233, 50234),
  (cX11_step, 3, 0, 2, some .int, 6, 152, false, yX11_step, 50239, 50237, 50238),
  (cX11_frame, 4, 0, 2, some .int, 2, 62, false, yX11_frame, 60003, 60001, 60002),
  (cX11_register, 4, 0, 3, some .int, 2, 62, false, yX11_register, 60007, 60005, 60006),
  (cX11_drop, 1, 0, 1, some .int, 3, 83, false, yX11_drop, 60011, 60009, 60010),
  (cX11_told, 2, 0, 2, some .int, 2, 62, false, yX11_told, 60015, 60013, 60014)]
def tbY12 : List MRow := [
  (code, 4, 1, 1, some .boolean, 9, 230, false, ⟨"MarkedStepsLaw", "law", "([I)Z"⟩, 0, 0, 0)]
def tbY : Nat → List MRow := fun c => match c with
  | 0 => tbY0
  | 1 => tbY1
  | 2 => tbY2
  | 3 => tbY3
  | 4 => tbY4
  | 5 => tbY5
  | 6 => tbY6
  | 7 => tbY7
  | 8 => tbY8
  | 9 => tbY9
  | 10 => tbY10
  | 11 => tbY11
  | 12 => tbY12
  | _ => []
def mrow (m : Nat) : MRow := (tbY (m / 100)).getD (m % 100) (⟨#[]⟩, 0, 9, 0, none, 0, 0, true, ⟨"", "", ""⟩, 0, 0, 0)
def mcl (m : Nat) : Nat := m / 100
def mb (m : Nat) : ByteArray := (mrow m).1
def mxl (m : Nat) : Nat := (mrow m).2.1
def mkd (m : Nat) : Nat := (mrow m).2.2.1
def mnp (m : Nat) : Nat := (mrow m).2.2.2.1
def mret (m : Nat) : Option FieldType := (mrow m).2.2.2.2.1
def mrf (m : Nat) : Nat := (mrow m).2.2.2.2.2.1
def mrl (m : Nat) : Nat := (mrow m).2.2.2.2.2.2.1
def mlong (m : Nat) : Bool := (mrow m).2.2.2.2.2.2.2.1
def my (m : Nat) : MethodName := (mrow m).2.2.2.2.2.2.2.2.1
/-- who is called must be an object of the method's own class -/
def rcv (m : Nat) (as : List Value) (k : Nat → Nat) : Bool := match mkd m == 1 with
  | true => true
  | false => match as with
    | .ref a :: _ => k a == mcl m + 1
    | _ => false
def mini (m : Nat) : Bool := mkd m == 2
def mrra (m : Nat) : Bool := match mret m with
  | some (.object _) => true
  | some (.array _) => true
  | _ => false
