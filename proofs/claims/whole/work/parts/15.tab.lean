theorem f0_9 : fOf 0 9 = some (9, 0, [0], "CostumeStock$Actor", 606, none, 606) := rfl
theorem f1_9 : fOf 1 9 = some (1009, 6, [1], "CostumeStock$Garment", 275, none, 275) := rfl
theorem f1_15 : fOf 1 15 = some (1015, 7, [1], "CostumeStock$Garment", 278, none, 278) := rfl
theorem f1_18 : fOf 1 18 = some (1018, 8, [1], "CostumeStock$Garment", 281, none, 281) := rfl
theorem f2_9 : fOf 2 9 = some (2009, 0, [2], "CostumeStock$Hire", 827, none, 827) := rfl
theorem f2_15 : fOf 2 15 = some (2015, 1, [2], "CostumeStock$Hire", 829, none, 829) := rfl
theorem f2_19 : fOf 2 19 = some (2019, 2, [2], "CostumeStock$Hire", 831, none, 831) := rfl
theorem f3_9 : fOf 3 9 = some (3009, 0, [3], "CostumeStock$Holder", 240, none, 240) := rfl
theorem f3_15 : fOf 3 15 = some (3015, 1, [3], "CostumeStock$Holder", 242, none, 242) := rfl
theorem f3_21 : fOf 3 21 = some (3021, 2, [3], "CostumeStock$Holder", 245, none, 245) := rfl
theorem f3_29 : fOf 3 29 = some (3029, 1, [1, 8, 9], "CostumeStock$Thing", 290, none, 290) := rfl
theorem f3_32 : fOf 3 32 = some (3032, 3, [1, 8, 9], "CostumeStock$Thing", 300, none, 300) := rfl
theorem f4_7 : fOf 4 7 = some (4007, 0, [4], "CostumeStock$Move", 475, none, 475) := rfl
theorem f4_13 : fOf 4 13 = some (4013, 2, [1, 8, 9], "CostumeStock$Thing", 295, none, 295) := rfl
theorem f4_19 : fOf 4 19 = some (4019, 1, [4], "CostumeStock$Move", 476, none, 476) := rfl
theorem f4_20 : fOf 4 20 = some (4020, 3, [1, 8, 9], "CostumeStock$Thing", 298, none, 298) := rfl
theorem f4_24 : fOf 4 24 = some (4024, 2, [4], "CostumeStock$Move", 477, none, 477) := rfl
theorem f4_25 : fOf 4 25 = some (4025, 4, [1, 8, 9], "CostumeStock$Thing", 302, none, 302) := rfl
theorem f4_28 : fOf 4 28 = some (4028, 3, [4], "CostumeStock$Move", 478, none, 478) := rfl
theorem f4_29 : fOf 4 29 = some (4029, 4, [4], "CostumeStock$Move", 479, none, 479) := rfl
theorem f4_32 : fOf 4 32 = some (4032, 5, [4], "CostumeStock$Move", 480, none, 480) := rfl
theorem f4_36 : fOf 4 36 = some (4036, 6, [4], "CostumeStock$Move", 481, none, 481) := rfl
theorem f4_43 : fOf 4 43 = some (4043, 11, [10], "CostumeStock", 180, some "CostumeStock", 180) := rfl
theorem f4_46 : fOf 4 46 = some (4046, 2, [2], "CostumeStock$Hire", 832, none, 832) := rfl
theorem f5_11 : fOf 5 11 = some (5011, 0, [5], "CostumeStock$Planner", 109, none, 109) := rfl
theorem f5_17 : fOf 5 17 = some (5017, 1, [5], "CostumeStock$Planner", 110, none, 110) := rfl
theorem f5_21 : fOf 5 21 = some (5021, 3, [5], "CostumeStock$Planner", 113, none, 113) := rfl
theorem f5_26 : fOf 5 26 = some (5026, 4, [5], "CostumeStock$Planner", 115, none, 115) := rfl
theorem f5_30 : fOf 5 30 = some (5030, 6, [5], "CostumeStock$Planner", 117, none, 117) := rfl
theorem f5_35 : fOf 5 35 = some (5035, 7, [5], "CostumeStock$Planner", 118, none, 118) := rfl
theorem f5_38 : fOf 5 38 = some (5038, 8, [5], "CostumeStock$Planner", 119, none, 119) := rfl
theorem f5_41 : fOf 5 41 = some (5041, 9, [5], "CostumeStock$Planner", 120, none, 120) := rfl
theorem f5_44 : fOf 5 44 = some (5044, 10, [5], "CostumeStock$Planner", 121, none, 121) := rfl
theorem f5_47 : fOf 5 47 = some (5047, 11, [5], "CostumeStock$Planner", 122, none, 122) := rfl
theorem f5_50 : fOf 5 50 = some (5050, 12, [5], "CostumeStock$Planner", 123, none, 123) := rfl
theorem f5_53 : fOf 5 53 = some (5053, 13, [5], "CostumeStock$Planner", 124, none, 124) := rfl
theorem f5_56 : fOf 5 56 = some (5056, 14, [5], "CostumeStock$Planner", 125, none, 125) := rfl
theorem f5_59 : fOf 5 59 = some (5059, 16, [5], "CostumeStock$Planner", 127, none, 127) := rfl
theorem f5_62 : fOf 5 62 = some (5062, 2, [5], "CostumeStock$Planner", 111, none, 111) := rfl
theorem f5_66 : fOf 5 66 = some (5066, 5, [5], "CostumeStock$Planner", 116, none, 116) := rfl
theorem f5_92 : fOf 5 92 = some (5092, 15, [5], "CostumeStock$Planner", 126, none, 126) := rfl
theorem f5_99 : fOf 5 99 = some (5099, 17, [5], "CostumeStock$Planner", 129, none, 129) := rfl
theorem f5_106 : fOf 5 106 = some (5106, 0, [1, 8, 9], "CostumeStock$Thing", 285, none, 285) := rfl
theorem f6_7 : fOf 6 7 = some (6007, 0, [6], "CostumeStock$Remeasure", 625, none, 625) := rfl
theorem f6_13 : fOf 6 13 = some (6013, 1, [6], "CostumeStock$Remeasure", 626, none, 626) := rfl
theorem f6_17 : fOf 6 17 = some (6017, 0, [0], "CostumeStock$Actor", 605, none, 605) := rfl
theorem f6_23 : fOf 6 23 = some (6023, 2, [6], "CostumeStock$Remeasure", 627, none, 627) := rfl
theorem f7_7 : fOf 7 7 = some (7007, 0, [7], "CostumeStock$Resize", 554, none, 554) := rfl
theorem f7_13 : fOf 7 13 = some (7013, 1, [7], "CostumeStock$Resize", 555, none, 555) := rfl
theorem f7_17 : fOf 7 17 = some (7017, 6, [1], "CostumeStock$Garment", 276, none, 276) := rfl
theorem f7_23 : fOf 7 23 = some (7023, 2, [7], "CostumeStock$Resize", 556, none, 556) := rfl
theorem f7_26 : fOf 7 26 = some (7026, 7, [1], "CostumeStock$Garment", 279, none, 279) := rfl
theorem f7_29 : fOf 7 29 = some (7029, 3, [7], "CostumeStock$Resize", 557, none, 557) := rfl
theorem f7_32 : fOf 7 32 = some (7032, 8, [1], "CostumeStock$Garment", 282, none, 282) := rfl
theorem f7_35 : fOf 7 35 = some (7035, 4, [7], "CostumeStock$Resize", 558, none, 558) := rfl
theorem f7_38 : fOf 7 38 = some (7038, 5, [7], "CostumeStock$Resize", 559, none, 559) := rfl
theorem f7_41 : fOf 7 41 = some (7041, 12, [10], "CostumeStock", 182, some "CostumeStock", 182) := rfl
theorem f8_9 : fOf 8 9 = some (8009, 6, [8], "CostumeStock$Row", 359, none, 359) := rfl
theorem f8_15 : fOf 8 15 = some (8015, 1, [8], "CostumeStock$Row", 288, none, 289) := rfl
theorem f9_9 : fOf 9 9 = some (9009, 0, [1, 8, 9], "CostumeStock$Thing", 284, none, 284) := rfl
theorem f9_15 : fOf 9 15 = some (9015, 1, [1, 8, 9], "CostumeStock$Thing", 287, none, 287) := rfl
theorem f9_18 : fOf 9 18 = some (9018, 2, [1, 8, 9], "CostumeStock$Thing", 296, none, 296) := rfl
theorem f9_21 : fOf 9 21 = some (9021, 3, [1, 8, 9], "CostumeStock$Thing", 299, none, 299) := rfl
theorem f9_25 : fOf 9 25 = some (9025, 1, [3], "CostumeStock$Holder", 243, none, 243) := rfl
theorem f9_31 : fOf 9 31 = some (9031, 4, [1, 8, 9], "CostumeStock$Thing", 303, none, 303) := rfl
theorem f10_11 : fOf 10 11 = some (10011, 0, [10], "CostumeStock", 169, none, 169) := rfl
theorem f10_17 : fOf 10 17 = some (10017, 2, [10], "CostumeStock", 171, none, 171) := rfl
theorem f10_23 : fOf 10 23 = some (10023, 4, [10], "CostumeStock", 173, none, 173) := rfl
theorem f10_29 : fOf 10 29 = some (10029, 6, [10], "CostumeStock", 175, none, 175) := rfl
theorem f10_35 : fOf 10 35 = some (10035, 8, [10], "CostumeStock", 177, none, 177) := rfl
theorem f10_42 : fOf 10 42 = some (10042, 10, [10], "CostumeStock", 179, none, 179) := rfl
theorem f10_46 : fOf 10 46 = some (10046, 16, [10], "CostumeStock", 187, none, 187) := rfl
theorem f10_54 : fOf 10 54 = some (10054, 3, [10], "CostumeStock", 172, none, 172) := rfl
theorem f10_73 : fOf 10 73 = some (10073, 1, [10], "CostumeStock", 170, none, 170) := rfl
theorem f10_96 : fOf 10 96 = some (10096, 1, [8], "CostumeStock$Row", 291, none, 289) := rfl
theorem f10_103 : fOf 10 103 = some (10103, 6, [8], "CostumeStock$Row", 360, none, 360) := rfl
theorem f10_115 : fOf 10 115 = some (10115, 1, [1, 8, 9], "CostumeStock$Thing", 292, none, 292) := rfl
theorem f10_116 : fOf 10 116 = some (10116, 2, [1, 8, 9], "CostumeStock$Thing", 297, none, 297) := rfl
theorem f10_119 : fOf 10 119 = some (10119, 3, [1, 8, 9], "CostumeStock$Thing", 301, none, 301) := rfl
theorem f10_123 : fOf 10 123 = some (10123, 0, [3], "CostumeStock$Holder", 241, none, 241) := rfl
theorem f10_151 : fOf 10 151 = some (10151, 6, [1], "CostumeStock$Garment", 277, none, 277) := rfl
theorem f10_156 : fOf 10 156 = some (10156, 12, [10], "CostumeStock", 183, none, 183) := rfl
theorem f10_166 : fOf 10 166 = some (10166, 7, [1], "CostumeStock$Garment", 280, none, 280) := rfl
theorem f10_169 : fOf 10 169 = some (10169, 8, [1], "CostumeStock$Garment", 283, none, 283) := rfl
theorem f10_176 : fOf 10 176 = some (10176, 1, [1], "CostumeStock$Garment", 293, none, 294) := rfl
theorem f10_186 : fOf 10 186 = some (10186, 5, [10], "CostumeStock", 174, none, 174) := rfl
theorem f10_202 : fOf 10 202 = some (10202, 0, [0], "CostumeStock$Actor", 607, none, 607) := rfl
theorem f10_238 : fOf 10 238 = some (10238, 2, [5], "CostumeStock$Planner", 112, none, 112) := rfl
theorem f10_241 : fOf 10 241 = some (10241, 3, [5], "CostumeStock$Planner", 114, none, 114) := rfl
theorem f10_262 : fOf 10 262 = some (10262, 17, [5], "CostumeStock$Planner", 130, none, 130) := rfl
theorem f10_265 : fOf 10 265 = some (10265, 16, [5], "CostumeStock$Planner", 128, none, 128) := rfl
theorem f10_280 : fOf 10 280 = some (10280, 11, [10], "CostumeStock", 181, none, 181) := rfl
theorem f10_293 : fOf 10 293 = some (10293, 0, [1, 8, 9], "CostumeStock$Thing", 286, none, 286) := rfl
theorem f10_297 : fOf 10 297 = some (10297, 9, [10], "CostumeStock", 178, none, 178) := rfl
theorem f10_304 : fOf 10 304 = some (10304, 13, [10], "CostumeStock", 184, none, 184) := rfl
theorem f10_307 : fOf 10 307 = some (10307, 14, [10], "CostumeStock", 185, none, 185) := rfl
theorem f10_310 : fOf 10 310 = some (10310, 15, [10], "CostumeStock", 186, none, 186) := rfl
theorem f10_320 : fOf 10 320 = some (10320, 5, [1, 8, 9], "CostumeStock$Thing", 304, none, 304) := rfl
theorem f10_323 : fOf 10 323 = some (10323, 7, [10], "CostumeStock", 176, none, 176) := rfl
theorem f10_326 : fOf 10 326 = some (10326, 2, [2], "CostumeStock$Hire", 833, none, 833) := rfl
theorem f10_351 : fOf 10 351 = some (10351, 2, [3], "CostumeStock$Holder", 246, none, 246) := rfl
theorem f10_358 : fOf 10 358 = some (10358, 0, [2], "CostumeStock$Hire", 828, none, 828) := rfl
theorem f10_362 : fOf 10 362 = some (10362, 1, [2], "CostumeStock$Hire", 830, none, 830) := rfl
theorem f10_389 : fOf 10 389 = some (10389, 1, [3], "CostumeStock$Holder", 244, none, 244) := rfl
theorem f11_9 : fOf 11 9 = some (11009, 2, [11], "CostumeStockModel", 931, none, 931) := rfl
theorem f11_13 : fOf 11 13 = some (11013, 3, [11], "CostumeStockModel", 932, none, 932) := rfl
theorem f11_16 : fOf 11 16 = some (11016, 4, [11], "CostumeStockModel", 933, none, 933) := rfl
theorem f11_19 : fOf 11 19 = some (11019, 5, [11], "CostumeStockModel", 934, none, 934) := rfl
theorem f11_22 : fOf 11 22 = some (11022, 6, [11], "CostumeStockModel", 935, none, 935) := rfl
theorem f11_25 : fOf 11 25 = some (11025, 7, [11], "CostumeStockModel", 936, none, 936) := rfl
theorem f11_28 : fOf 11 28 = some (11028, 9, [11], "CostumeStockModel", 938, none, 938) := rfl
theorem f11_31 : fOf 11 31 = some (11031, 10, [11], "CostumeStockModel", 939, none, 939) := rfl
theorem f11_34 : fOf 11 34 = some (11034, 11, [11], "CostumeStockModel", 940, none, 940) := rfl
theorem f11_37 : fOf 11 37 = some (11037, 12, [11], "CostumeStockModel", 941, none, 941) := rfl
theorem f11_40 : fOf 11 40 = some (11040, 13, [11], "CostumeStockModel", 942, none, 942) := rfl
theorem f11_43 : fOf 11 43 = some (11043, 16, [11], "CostumeStockModel", 945, none, 945) := rfl
theorem f11_46 : fOf 11 46 = some (11046, 20, [11], "CostumeStockModel", 949, none, 949) := rfl
theorem f11_49 : fOf 11 49 = some (11049, 22, [11], "CostumeStockModel", 951, none, 951) := rfl
theorem f11_52 : fOf 11 52 = some (11052, 23, [11], "CostumeStockModel", 952, none, 952) := rfl
theorem f11_55 : fOf 11 55 = some (11055, 24, [11], "CostumeStockModel", 953, none, 953) := rfl
theorem f11_58 : fOf 11 58 = some (11058, 26, [11], "CostumeStockModel", 955, none, 955) := rfl
theorem f11_61 : fOf 11 61 = some (11061, 27, [11], "CostumeStockModel", 956, none, 956) := rfl
theorem f11_64 : fOf 11 64 = some (11064, 28, [11], "CostumeStockModel", 957, none, 957) := rfl
theorem f11_67 : fOf 11 67 = some (11067, 29, [11], "CostumeStockModel", 958, none, 958) := rfl
theorem f11_70 : fOf 11 70 = some (11070, 31, [11], "CostumeStockModel", 960, none, 960) := rfl
theorem f11_73 : fOf 11 73 = some (11073, 33, [11], "CostumeStockModel", 962, none, 962) := rfl
theorem f11_76 : fOf 11 76 = some (11076, 36, [11], "CostumeStockModel", 965, none, 965) := rfl
theorem f11_79 : fOf 11 79 = some (11079, 37, [11], "CostumeStockModel", 966, none, 966) := rfl
theorem f11_82 : fOf 11 82 = some (11082, 38, [11], "CostumeStockModel", 967, none, 967) := rfl
theorem f11_85 : fOf 11 85 = some (11085, 39, [11], "CostumeStockModel", 968, none, 968) := rfl
theorem f11_88 : fOf 11 88 = some (11088, 40, [11], "CostumeStockModel", 969, none, 969) := rfl
theorem f11_91 : fOf 11 91 = some (11091, 0, [11], "CostumeStockModel", 929, none, 929) := rfl
theorem f11_95 : fOf 11 95 = some (11095, 1, [11], "CostumeStockModel", 930, none, 930) := rfl
theorem f11_98 : fOf 11 98 = some (11098, 8, [11], "CostumeStockModel", 937, none, 937) := rfl
theorem f11_126 : fOf 11 126 = some (11126, 14, [11], "CostumeStockModel", 943, none, 943) := rfl
theorem f11_129 : fOf 11 129 = some (11129, 15, [11], "CostumeStockModel", 944, none, 944) := rfl
theorem f11_168 : fOf 11 168 = some (11168, 17, [11], "CostumeStockModel", 946, none, 946) := rfl
theorem f11_171 : fOf 11 171 = some (11171, 18, [11], "CostumeStockModel", 947, none, 947) := rfl
theorem f11_174 : fOf 11 174 = some (11174, 34, [11], "CostumeStockModel", 963, none, 963) := rfl
theorem f11_188 : fOf 11 188 = some (11188, 19, [11], "CostumeStockModel", 948, none, 948) := rfl
theorem f11_218 : fOf 11 218 = some (11218, 21, [11], "CostumeStockModel", 950, none, 950) := rfl
theorem f11_221 : fOf 11 221 = some (11221, 25, [11], "CostumeStockModel", 954, none, 954) := rfl
theorem f11_225 : fOf 11 225 = some (11225, 30, [11], "CostumeStockModel", 959, none, 959) := rfl
theorem f11_238 : fOf 11 238 = some (11238, 32, [11], "CostumeStockModel", 961, none, 961) := rfl
theorem f11_246 : fOf 11 246 = some (11246, 35, [11], "CostumeStockModel", 964, none, 964) := rfl
theorem f11_249 : fOf 11 249 = some (11249, 41, [11], "CostumeStockModel", 970, none, 970) := rfl
theorem k3_19 : kOf 3 19 = some (3019, 9, 239) := rfl
theorem k5_9 : kOf 5 9 = some (5009, 0, 105) := rfl
theorem k5_24 : kOf 5 24 = some (5024, 9, 106) := rfl
theorem k5_33 : kOf 5 33 = some (5033, 26, 107) := rfl
theorem k10_9 : kOf 10 9 = some (10009, 9, 89) := rfl
theorem k10_15 : kOf 10 15 = some (10015, 3, 91) := rfl
theorem k10_21 : kOf 10 21 = some (10021, 0, 93) := rfl
theorem k10_27 : kOf 10 27 = some (10027, 2, 95) := rfl
theorem k10_33 : kOf 10 33 = some (10033, 12, 97) := rfl
theorem k10_39 : kOf 10 39 = some (10039, 5, 99) := rfl
theorem k10_71 : kOf 10 71 = some (10071, 1, 266) := rfl
theorem k10_87 : kOf 10 87 = some (10087, 8, 353) := rfl
theorem k10_154 : kOf 10 154 = some (10154, 7, 548) := rfl
theorem k10_197 : kOf 10 197 = some (10197, 6, 619) := rfl
theorem k10_342 : kOf 10 342 = some (10342, 4, 466) := rfl
theorem k13_7 : kOf 13 7 = some (13007, 10, 81) := rfl
theorem k13_10 : kOf 13 10 = some (13010, 11, 923) := rfl
theorem i0_3 : iOf 0 3 = some (3, 4, 0, [], 604) := rfl
theorem i1_3 : iOf 1 3 = some (1003, 2, 2, [(99, 38)], 271) := rfl
theorem i1_21 : iOf 1 21 = some (1021, 1, 3, [(99, 92)], 585) := rfl
theorem i2_3 : iOf 2 3 = some (2003, 4, 0, [], 826) := rfl
theorem i3_3 : iOf 3 3 = some (3003, 4, 0, [], 238) := rfl
theorem i3_25 : iOf 3 25 = some (3025, 5, 1, [(3, 6)], 512) := rfl
theorem i4_1 : iOf 4 1 = some (4001, 3, 0, [(99, 1)], 471) := rfl
theorem i4_39 : iOf 4 39 = some (4039, 5, 3, [(1, 42), (8, 42), (9, 42)], 898) := rfl
theorem i5_3 : iOf 5 3 = some (5003, 4, 0, [], 104) := rfl
theorem i5_69 : iOf 5 69 = some (5069, 5, 0, [(1, 39), (8, 39), (9, 39)], 733) := rfl
theorem i5_73 : iOf 5 73 = some (5073, 5, 0, [(1, 41), (8, 41), (9, 41)], 734) := rfl
theorem i5_76 : iOf 5 76 = some (5076, 1, 1, [(99, 125)], 741) := rfl
theorem i5_80 : iOf 5 80 = some (5080, 5, 2, [(5, 20)], 746) := rfl
theorem i5_84 : iOf 5 84 = some (5084, 5, 1, [(5, 22)], 756) := rfl
theorem i5_88 : iOf 5 88 = some (5088, 5, 0, [(5, 25)], 772) := rfl
theorem i5_95 : iOf 5 95 = some (5095, 5, 3, [(5, 27)], 781) := rfl
theorem i5_102 : iOf 5 102 = some (5102, 5, 2, [(5, 28)], 797) := rfl
theorem i5_109 : iOf 5 109 = some (5109, 1, 2, [(99, 116)], 750) := rfl
theorem i5_113 : iOf 5 113 = some (5113, 1, 2, [(99, 122)], 751) := rfl
theorem i5_116 : iOf 5 116 = some (5116, 5, 2, [(5, 21)], 752) := rfl
theorem i5_120 : iOf 5 120 = some (5120, 8, 2, [], 760) := rfl
theorem i5_126 : iOf 5 126 = some (5126, 7, 2, [], 763) := rfl
theorem i5_129 : iOf 5 129 = some (5129, 5, 3, [(5, 23)], 764) := rfl
theorem i5_133 : iOf 5 133 = some (5133, 5, 2, [(5, 24)], 768) := rfl
theorem i5_136 : iOf 5 136 = some (5136, 5, 2, [(5, 26)], 776) := rfl
theorem i5_139 : iOf 5 139 = some (5139, 5, 3, [(5, 29)], 785) := rfl
theorem i5_143 : iOf 5 143 = some (5143, 5, 4, [(5, 30)], 789) := rfl
theorem i6_1 : iOf 6 1 = some (6001, 3, 0, [(99, 1)], 624) := rfl
theorem i7_1 : iOf 7 1 = some (7001, 3, 0, [(99, 1)], 553) := rfl
theorem i8_3 : iOf 8 3 = some (8003, 2, 2, [(99, 38)], 358) := rfl
theorem i9_3 : iOf 9 3 = some (9003, 4, 0, [], 274) := rfl
theorem i9_34 : iOf 9 34 = some (9034, 5, 2, [(3, 7)], 508) := rfl
theorem i10_1 : iOf 10 1 = some (10001, 4, 0, [], 86) := rfl
theorem i10_41 : iOf 10 41 = some (10041, 3, 0, [(99, 13)], 101) := rfl
theorem i10_50 : iOf 10 50 = some (10050, 0, 3, [(99, 92)], 227) := rfl
theorem i10_57 : iOf 10 57 = some (10057, 5, 1, [(10, 84)], 230) := rfl
theorem i10_61 : iOf 10 61 = some (10061, 2, 3, [(99, 5)], 235) := rfl
theorem i10_64 : iOf 10 64 = some (10064, 5, 1, [(10, 85)], 254) := rfl
theorem i10_67 : iOf 10 67 = some (10067, 5, 0, [(10, 96)], 262) := rfl
theorem i10_76 : iOf 10 76 = some (10076, 2, 2, [(99, 2)], 268) := rfl
theorem i10_79 : iOf 10 79 = some (10079, 5, 1, [(10, 97)], 324) := rfl
theorem i10_83 : iOf 10 83 = some (10083, 5, 3, [(10, 98)], 332) := rfl
theorem i10_89 : iOf 10 89 = some (10089, 2, 3, [(99, 35)], 355) := rfl
theorem i10_92 : iOf 10 92 = some (10092, 5, 2, [(10, 90)], 374) := rfl
theorem i10_99 : iOf 10 99 = some (10099, 0, 1, [(99, 95)], 386) := rfl
theorem i10_107 : iOf 10 107 = some (10107, 5, 1, [(8, 37)], 389) := rfl
theorem i10_111 : iOf 10 111 = some (10111, 5, 1, [(10, 86)], 378) := rfl
theorem i10_126 : iOf 10 126 = some (10126, 5, 1, [(10, 87)], 415) := rfl
theorem i10_130 : iOf 10 130 = some (10130, 5, 0, [(10, 102)], 419) := rfl
theorem i10_133 : iOf 10 133 = some (10133, 5, 3, [(10, 106)], 431) := rfl
theorem i10_137 : iOf 10 137 = some (10137, 5, 0, [(10, 103)], 513) := rfl
theorem i10_140 : iOf 10 140 = some (10140, 5, 2, [(10, 107)], 525) := rfl
theorem i10_144 : iOf 10 144 = some (10144, 5, 2, [(10, 108)], 533) := rfl
theorem i10_147 : iOf 10 147 = some (10147, 5, 2, [(10, 91)], 541) := rfl
theorem i10_159 : iOf 10 159 = some (10159, 2, 3, [(99, 33)], 550) := rfl
theorem i10_162 : iOf 10 162 = some (10162, 5, 1, [(10, 115)], 497) := rfl
theorem i10_172 : iOf 10 172 = some (10172, 5, 2, [(1, 3)], 581) := rfl
theorem i10_177 : iOf 10 177 = some (10177, 6, 1, [], 586) := rfl
theorem i10_182 : iOf 10 182 = some (10182, 0, 2, [(99, 124)], 589) := rfl
theorem i10_189 : iOf 10 189 = some (10189, 3, 0, [(99, 0)], 601) := rfl
theorem i10_190 : iOf 10 190 = some (10190, 5, 1, [(10, 88)], 615) := rfl
theorem i10_194 : iOf 10 194 = some (10194, 0, 1, [(99, 93)], 545) := rfl
theorem i10_199 : iOf 10 199 = some (10199, 2, 2, [(99, 31)], 621) := rfl
theorem i10_205 : iOf 10 205 = some (10205, 5, 0, [(1, 39), (8, 39), (9, 39)], 639) := rfl
theorem i10_208 : iOf 10 208 = some (10208, 0, 2, [(99, 116)], 646) := rfl
theorem i10_212 : iOf 10 212 = some (10212, 0, 2, [(99, 122)], 668) := rfl
theorem i10_215 : iOf 10 215 = some (10215, 0, 1, [(99, 125)], 678) := rfl
theorem i10_218 : iOf 10 218 = some (10218, 0, 1, [(99, 127)], 688) := rfl
theorem i10_221 : iOf 10 221 = some (10221, 0, 1, [(99, 128)], 691) := rfl
theorem i10_224 : iOf 10 224 = some (10224, 0, 1, [(99, 94)], 698) := rfl
theorem i10_227 : iOf 10 227 = some (10227, 5, 0, [(5, 14)], 701) := rfl
theorem i10_230 : iOf 10 230 = some (10230, 5, 2, [(5, 15)], 705) := rfl
theorem i10_234 : iOf 10 234 = some (10234, 5, 2, [(5, 16)], 709) := rfl
theorem i10_244 : iOf 10 244 = some (10244, 5, 0, [(10, 104)], 725) := rfl
theorem i10_247 : iOf 10 247 = some (10247, 5, 2, [(5, 17)], 729) := rfl
theorem i10_251 : iOf 10 251 = some (10251, 5, 2, [(5, 18)], 742) := rfl
theorem i10_255 : iOf 10 255 = some (10255, 5, 1, [(5, 19)], 793) := rfl
theorem i10_259 : iOf 10 259 = some (10259, 5, 0, [(10, 105)], 801) := rfl
theorem i10_268 : iOf 10 268 = some (10268, 5, 2, [(10, 109)], 817) := rfl
theorem i10_272 : iOf 10 272 = some (10272, 5, 1, [(10, 89)], 845) := rfl
theorem i10_276 : iOf 10 276 = some (10276, 5, 4, [(10, 110)], 849) := rfl
theorem i10_283 : iOf 10 283 = some (10283, 5, 0, [(10, 99)], 423) := rfl
theorem i10_286 : iOf 10 286 = some (10286, 5, 4, [(10, 129)], 869) := rfl
theorem i10_290 : iOf 10 290 = some (10290, 5, 0, [(10, 101)], 517) := rfl
theorem i10_294 : iOf 10 294 = some (10294, 5, 2, [(10, 130)], 884) := rfl
theorem i10_300 : iOf 10 300 = some (10300, 5, 1, [(4, 12), (6, 32), (7, 34)], 892) := rfl
theorem i10_313 : iOf 10 313 = some (10313, 0, 2, [(99, 131)], 917) := rfl
theorem i10_316 : iOf 10 316 = some (10316, 0, 2, [(99, 132)], 920) := rfl
theorem i10_329 : iOf 10 329 = some (10329, 5, 1, [(8, 36)], 382) := rfl
theorem i10_332 : iOf 10 332 = some (10332, 2, 2, [(99, 38)], 337) := rfl
theorem i10_333 : iOf 10 333 = some (10333, 5, 0, [(10, 100)], 427) := rfl
theorem i10_336 : iOf 10 336 = some (10336, 5, 1, [(3, 6)], 435) := rfl
theorem i10_339 : iOf 10 339 = some (10339, 0, 3, [(99, 111)], 439) := rfl
theorem i10_344 : iOf 10 344 = some (10344, 2, 4, [(99, 11)], 468) := rfl
theorem i10_347 : iOf 10 347 = some (10347, 5, 3, [(1, 42), (8, 42), (9, 42)], 501) := rfl
theorem i10_355 : iOf 10 355 = some (10355, 2, 2, [(99, 4)], 823) := rfl
theorem i10_365 : iOf 10 365 = some (10365, 5, 0, [(3, 8)], 442) := rfl
theorem i10_368 : iOf 10 368 = some (10368, 0, 1, [(99, 112)], 446) := rfl
theorem i10_372 : iOf 10 372 = some (10372, 0, 2, [(99, 113)], 457) := rfl
theorem i10_375 : iOf 10 375 = some (10375, 0, 2, [(99, 114)], 463) := rfl
theorem i10_379 : iOf 10 379 = some (10379, 5, 0, [(3, 9)], 449) := rfl
theorem i10_382 : iOf 10 382 = some (10382, 5, 0, [(3, 10)], 453) := rfl
theorem i10_386 : iOf 10 386 = some (10386, 7, 2, [], 460) := rfl
theorem i10_392 : iOf 10 392 = some (10392, 0, 2, [(99, 117)], 649) := rfl
theorem i10_396 : iOf 10 396 = some (10396, 0, 2, [(99, 119)], 661) := rfl
theorem i10_399 : iOf 10 399 = some (10399, 0, 2, [(99, 121)], 652) := rfl
theorem i10_402 : iOf 10 402 = some (10402, 0, 3, [(99, 118)], 655) := rfl
theorem i10_406 : iOf 10 406 = some (10406, 0, 1, [(99, 120)], 658) := rfl
theorem i10_409 : iOf 10 409 = some (10409, 0, 2, [(99, 123)], 671) := rfl
theorem i10_412 : iOf 10 412 = some (10412, 0, 1, [(99, 126)], 681) := rfl
theorem i10_415 : iOf 10 415 = some (10415, 5, 1, [(1, 40), (8, 40), (9, 40)], 873) := rfl
theorem i11_1 : iOf 11 1 = some (11001, 4, 0, [], 928) := rfl
theorem i11_101 : iOf 11 101 = some (11101, 0, 3, [(99, 137)], 1060) := rfl
theorem i11_105 : iOf 11 105 = some (11105, 5, 1, [(11, 136)], 1099) := rfl
theorem i11_109 : iOf 11 109 = some (11109, 5, 1, [(11, 135)], 1063) := rfl
theorem i11_113 : iOf 11 113 = some (11113, 5, 1, [(11, 134)], 1067) := rfl
theorem i11_116 : iOf 11 116 = some (11116, 5, 3, [(11, 141)], 1075) := rfl
theorem i11_120 : iOf 11 120 = some (11120, 5, 2, [(11, 147)], 1095) := rfl
theorem i11_132 : iOf 11 132 = some (11132, 5, 1, [(11, 140)], 1125) := rfl
theorem i11_135 : iOf 11 135 = some (11135, 5, 2, [(11, 154)], 1137) := rfl
theorem i11_138 : iOf 11 138 = some (11138, 5, 1, [(11, 138)], 1141) := rfl
theorem i11_141 : iOf 11 141 = some (11141, 5, 2, [(11, 157)], 1145) := rfl
theorem i11_144 : iOf 11 144 = some (11144, 5, 1, [(11, 158)], 1149) := rfl
theorem i11_147 : iOf 11 147 = some (11147, 5, 0, [(11, 153)], 1129) := rfl
theorem i11_150 : iOf 11 150 = some (11150, 5, 3, [(11, 159)], 1133) := rfl
theorem i11_153 : iOf 11 153 = some (11153, 5, 3, [(11, 155)], 1153) := rfl
theorem i11_157 : iOf 11 157 = some (11157, 5, 6, [(11, 164)], 1157) := rfl
theorem i11_161 : iOf 11 161 = some (11161, 5, 2, [(11, 161)], 1165) := rfl
theorem i11_164 : iOf 11 164 = some (11164, 5, 2, [(11, 156)], 1169) := rfl
theorem i11_177 : iOf 11 177 = some (11177, 5, 2, [(11, 166)], 1185) := rfl
theorem i11_180 : iOf 11 180 = some (11180, 5, 2, [(11, 167)], 1189) := rfl
theorem i11_185 : iOf 11 185 = some (11185, 0, 2, [(99, 170)], 1202) := rfl
theorem i11_191 : iOf 11 191 = some (11191, 5, 1, [(11, 173)], 1217) := rfl
theorem i11_194 : iOf 11 194 = some (11194, 0, 1, [(99, 176)], 1233) := rfl
theorem i11_197 : iOf 11 197 = some (11197, 5, 3, [(11, 177)], 1236) := rfl
theorem i11_200 : iOf 11 200 = some (11200, 0, 2, [(99, 178)], 1240) := rfl
theorem i11_203 : iOf 11 203 = some (11203, 5, 2, [(11, 179)], 1229) := rfl
theorem i11_206 : iOf 11 206 = some (11206, 5, 2, [(11, 180)], 1247) := rfl
theorem i11_209 : iOf 11 209 = some (11209, 5, 1, [(11, 181)], 1255) := rfl
theorem i11_212 : iOf 11 212 = some (11212, 5, 1, [(11, 139)], 1225) := rfl
theorem i11_215 : iOf 11 215 = some (11215, 0, 1, [(99, 185)], 1263) := rfl
theorem i11_228 : iOf 11 228 = some (11228, 5, 4, [(11, 191)], 1295) := rfl
theorem i11_232 : iOf 11 232 = some (11232, 5, 2, [(11, 192)], 1291) := rfl
theorem i11_235 : iOf 11 235 = some (11235, 5, 0, [(11, 190)], 1282) := rfl
theorem i11_241 : iOf 11 241 = some (11241, 5, 0, [(11, 193)], 1287) := rfl
theorem i11_252 : iOf 11 252 = some (11252, 0, 2, [(99, 202)], 1336) := rfl
theorem i11_256 : iOf 11 256 = some (11256, 5, 3, [(11, 203)], 1332) := rfl
theorem i12_1 : iOf 12 1 = some (12001, 4, 0, [], 474) := rfl
theorem i13_9 : iOf 13 9 = some (13009, 2, 0, [(99, 43)], 83) := rfl
theorem i13_12 : iOf 13 12 = some (13012, 2, 0, [(99, 133)], 925) := rfl
theorem i13_13 : iOf 13 13 = some (13013, 5, 1, [(10, 44)], 223) := rfl
theorem i13_17 : iOf 13 17 = some (13017, 5, 1, [(11, 142)], 1056) := rfl
theorem i13_18 : iOf 13 18 = some (13018, 5, 1, [(10, 45)], 258) := rfl
theorem i13_21 : iOf 13 21 = some (13021, 5, 1, [(11, 143)], 1071) := rfl
theorem i13_22 : iOf 13 22 = some (13022, 5, 0, [(10, 46)], 328) := rfl
theorem i13_26 : iOf 13 26 = some (13026, 5, 0, [(11, 144)], 1079) := rfl
theorem i13_27 : iOf 13 27 = some (13027, 5, 1, [(10, 47)], 345) := rfl
theorem i13_30 : iOf 13 30 = some (13030, 5, 1, [(11, 145)], 1083) := rfl
theorem i13_31 : iOf 13 31 = some (13031, 5, 2, [(10, 48)], 349) := rfl
theorem i13_35 : iOf 13 35 = some (13035, 5, 2, [(11, 146)], 1087) := rfl
theorem i13_36 : iOf 13 36 = some (13036, 5, 3, [(10, 49)], 370) := rfl
theorem i13_40 : iOf 13 40 = some (13040, 5, 3, [(11, 148)], 1091) := rfl
theorem i13_41 : iOf 13 41 = some (13041, 5, 2, [(10, 50)], 394) := rfl
theorem i13_44 : iOf 13 44 = some (13044, 5, 2, [(11, 149)], 1104) := rfl
theorem i13_45 : iOf 13 45 = some (13045, 5, 1, [(10, 51)], 399) := rfl
theorem i13_48 : iOf 13 48 = some (13048, 5, 1, [(11, 150)], 1109) := rfl
theorem i13_49 : iOf 13 49 = some (13049, 5, 1, [(10, 52)], 403) := rfl
theorem i13_52 : iOf 13 52 = some (13052, 5, 1, [(11, 151)], 1113) := rfl
theorem i13_53 : iOf 13 53 = some (13053, 5, 1, [(10, 53)], 407) := rfl
theorem i13_56 : iOf 13 56 = some (13056, 5, 1, [(11, 152)], 1117) := rfl
theorem i13_57 : iOf 13 57 = some (13057, 5, 3, [(10, 54)], 411) := rfl
theorem i13_60 : iOf 13 60 = some (13060, 5, 3, [(11, 160)], 1121) := rfl
theorem i13_61 : iOf 13 61 = some (13061, 5, 2, [(10, 55)], 521) := rfl
theorem i13_64 : iOf 13 64 = some (13064, 5, 2, [(11, 162)], 1161) := rfl
theorem i13_65 : iOf 13 65 = some (13065, 5, 2, [(10, 56)], 529) := rfl
theorem i13_68 : iOf 13 68 = some (13068, 5, 2, [(11, 163)], 1173) := rfl
theorem i13_69 : iOf 13 69 = some (13069, 5, 3, [(10, 57)], 537) := rfl
theorem i13_72 : iOf 13 72 = some (13072, 5, 3, [(11, 168)], 1181) := rfl
theorem i13_73 : iOf 13 73 = some (13073, 5, 4, [(10, 58)], 573) := rfl
theorem i13_77 : iOf 13 77 = some (13077, 5, 4, [(11, 169)], 1193) := rfl
theorem i13_78 : iOf 13 78 = some (13078, 5, 3, [(10, 59)], 577) := rfl
theorem i13_81 : iOf 13 81 = some (13081, 5, 3, [(11, 171)], 1197) := rfl
theorem i13_82 : iOf 13 82 = some (13082, 5, 3, [(10, 60)], 592) := rfl
theorem i13_85 : iOf 13 85 = some (13085, 5, 3, [(11, 172)], 1205) := rfl
theorem i13_86 : iOf 13 86 = some (13086, 5, 0, [(10, 61)], 596) := rfl
theorem i13_89 : iOf 13 89 = some (13089, 5, 0, [(11, 174)], 1209) := rfl
theorem i13_90 : iOf 13 90 = some (13090, 5, 3, [(10, 62)], 611) := rfl
theorem i13_93 : iOf 13 93 = some (13093, 5, 3, [(11, 175)], 1213) := rfl
theorem i13_94 : iOf 13 94 = some (13094, 5, 2, [(10, 63)], 635) := rfl
theorem i13_97 : iOf 13 97 = some (13097, 5, 2, [(11, 182)], 1221) := rfl
theorem i13_98 : iOf 13 98 = some (13098, 5, 2, [(10, 64)], 664) := rfl
theorem i13_101 : iOf 13 101 = some (13101, 5, 2, [(11, 183)], 1243) := rfl
theorem i13_102 : iOf 13 102 = some (13102, 5, 1, [(10, 65)], 674) := rfl
theorem i13_105 : iOf 13 105 = some (13105, 5, 1, [(11, 184)], 1251) := rfl
theorem i13_106 : iOf 13 106 = some (13106, 5, 1, [(10, 66)], 684) := rfl
theorem i13_109 : iOf 13 109 = some (13109, 5, 1, [(11, 186)], 1259) := rfl
theorem i13_110 : iOf 13 110 = some (13110, 5, 2, [(10, 67)], 694) := rfl
theorem i13_113 : iOf 13 113 = some (13113, 5, 2, [(11, 187)], 1266) := rfl
theorem i13_114 : iOf 13 114 = some (13114, 5, 0, [(10, 68)], 713) := rfl
theorem i13_117 : iOf 13 117 = some (13117, 5, 0, [(11, 188)], 1270) := rfl
theorem i13_118 : iOf 13 118 = some (13118, 5, 2, [(10, 69)], 717) := rfl
theorem i13_121 : iOf 13 121 = some (13121, 5, 2, [(11, 189)], 1274) := rfl
theorem i13_122 : iOf 13 122 = some (13122, 5, 0, [(10, 70)], 721) := rfl
theorem i13_125 : iOf 13 125 = some (13125, 5, 0, [(11, 194)], 1278) := rfl
theorem i13_126 : iOf 13 126 = some (13126, 5, 1, [(10, 71)], 805) := rfl
theorem i13_129 : iOf 13 129 = some (13129, 5, 1, [(11, 195)], 1299) := rfl
theorem i13_130 : iOf 13 130 = some (13130, 5, 2, [(10, 72)], 809) := rfl
theorem i13_133 : iOf 13 133 = some (13133, 5, 2, [(11, 196)], 1303) := rfl
theorem i13_134 : iOf 13 134 = some (13134, 5, 2, [(10, 73)], 813) := rfl
theorem i13_137 : iOf 13 137 = some (13137, 5, 2, [(11, 197)], 1307) := rfl
theorem i13_138 : iOf 13 138 = some (13138, 5, 4, [(10, 74)], 841) := rfl
theorem i13_141 : iOf 13 141 = some (13141, 5, 4, [(11, 198)], 1312) := rfl
theorem i13_142 : iOf 13 142 = some (13142, 5, 0, [(10, 75)], 853) := rfl
theorem i13_145 : iOf 13 145 = some (13145, 5, 0, [(11, 199)], 1316) := rfl
theorem i13_146 : iOf 13 146 = some (13146, 5, 0, [(10, 76)], 857) := rfl
theorem i13_149 : iOf 13 149 = some (13149, 5, 0, [(11, 200)], 1320) := rfl
theorem i13_150 : iOf 13 150 = some (13150, 5, 2, [(10, 77)], 861) := rfl
theorem i13_153 : iOf 13 153 = some (13153, 5, 2, [(11, 201)], 1324) := rfl
theorem i13_154 : iOf 13 154 = some (13154, 5, 2, [(10, 78)], 865) := rfl
theorem i13_157 : iOf 13 157 = some (13157, 5, 2, [(11, 204)], 1328) := rfl
theorem i13_158 : iOf 13 158 = some (13158, 5, 1, [(10, 79)], 880) := rfl
theorem i13_161 : iOf 13 161 = some (13161, 5, 1, [(11, 205)], 1339) := rfl
theorem i13_162 : iOf 13 162 = some (13162, 5, 0, [(10, 80)], 888) := rfl
theorem i13_165 : iOf 13 165 = some (13165, 5, 0, [(11, 165)], 1177) := rfl
theorem i13_166 : iOf 13 166 = some (13166, 5, 1, [(10, 81)], 905) := rfl
theorem i13_169 : iOf 13 169 = some (13169, 5, 1, [(11, 206)], 1343) := rfl
theorem i13_170 : iOf 13 170 = some (13170, 5, 0, [(10, 82)], 909) := rfl
theorem i13_173 : iOf 13 173 = some (13173, 5, 0, [(11, 207)], 1347) := rfl
theorem i13_174 : iOf 13 174 = some (13174, 5, 0, [(10, 83)], 913) := rfl
theorem i13_177 : iOf 13 177 = some (13177, 5, 0, [(11, 208)], 1351) := rfl
theorem c5_91 : sOf 5 91 = some (5091, 2147483647, 780) := rfl
theorem c8_19 : sOf 8 19 = some (8019, 65535, 393) := rfl
theorem c10_110 : sOf 10 110 = some (10110, 2147483647, 398) := rfl
theorem c10_354 : sOf 10 354 = some (10354, 1000000, 821) := rfl
theorem c11_124 : sOf 11 124 = some (11124, 65535, 1103) := rfl
theorem c11_125 : sOf 11 125 = some (11125, 2147483647, 1108) := rfl
theorem c11_183 : s2Of 11 183 = some (11183, 255, 1201) := rfl
theorem c11_224 : sOf 11 224 = some (11224, 100000000, 1286) := rfl
theorem c11_245 : sOf 11 245 = some (11245, 1000000, 1311) := rfl
