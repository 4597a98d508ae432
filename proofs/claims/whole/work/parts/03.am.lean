def am_Ml_1 : List (MethodName × ByteArray × Nat × Option FieldType × Nat × Nat) := [(yX0_init, cX0_init, 6, none, 0, 537), (yX0_wants, cX0_wants, 4, some FieldType.boolean, 0, 668), (yX0_takes, cX0_takes, 3, some FieldType.int, 0, 861), (yX1_init, cX1_init, 6, none, 1, 605), (yX1_wants, cX1_wants, 4, some FieldType.boolean, 1, 672), (yX1_tells, cX1_tells, 4, some FieldType.int, 1, 907), (yX2_init, cX2_init, 6, none, 2, 581), (yX2_wants, cX2_wants, 6, some FieldType.boolean, 2, 675), (yX2_walks, cX2_walks, 3, some FieldType.int, 2, 888), (yX3_init, cX3_init, 6, none, 3, 629), (yX3_wants, cX3_wants, 5, some FieldType.boolean, 3, 686), (yX3_walks, cX3_walks, 3, some FieldType.int, 3, 893), (yX4_init, cX4_init, 6, none, 4, 593), (yX4_wants, cX4_wants, 4, some FieldType.boolean, 4, 690), (yX4_tells, cX4_tells, 3, some FieldType.int, 4, 920), (yX5_init, cX5_init, 6, none, 5, 617), (yX5_shares, cX5_shares, 1, some FieldType.boolean, 5, 725), (yX5_takes, cX5_takes, 3, some FieldType.int, 5, 873), (yX6_init, cX6_init, 1, none, 6, 99), (yX6_copyFrom, cX6_copyFrom, 3, none, 6, 944), (yX6_vanishedAt, cX6_vanishedAt, 4, some FieldType.int, 6, 849), (yX7_init, cX7_init, 1, none, 7, 155), (yX7_rainOf, cX7_rainOf, 3, some FieldType.int, 7, 525), (yX7_loses, cX7_loses, 8, some FieldType.boolean, 7, 713), (yX7_layFacts, cX7_layFacts, 6, none, 7, 504), (yX7_holds, cX7_holds, 7, some FieldType.boolean, 7, 508), (yX7_testHolds, cX7_testHolds, 4, some FieldType.boolean, 7, 512), (yX7_readFrom, cX7_readFrom, 4, some FieldType.int, 7, 330), (yX7_readClause, cX7_readClause, 4, some FieldType.boolean, 7, 334), (yX7_keepClause, cX7_keepClause, 4, none, 7, 496), (yX7_addRain, cX7_addRain, 4, none, 7, 500), (yX7_addLost, cX7_addLost, 3, none, 7, 517), (yX7_readWord, cX7_readWord, 5, some FieldType.int, 7, 338), (yX7_wordOf, cX7_wordOf, 1, some (FieldType.object "java/lang/String"), 7, 341), (yX7_alikeWith, cX7_alikeWith, 3, some FieldType.int, 7, 350), (yX7_readNumber, cX7_readNumber, 3, some FieldType.int, 7, 413), (yX7_readEither, cX7_readEither, 3, some FieldType.boolean, 7, 417), (yX7_readBoth, cX7_readBoth, 3, some FieldType.boolean, 7, 421), (yX7_readSingle, cX7_readSingle, 2, some FieldType.boolean, 7, 425), (yX7_readTest, cX7_readTest, 4, some FieldType.boolean, 7, 433), (yX7_skip, cX7_skip, 2, some FieldType.boolean, 7, 409), (yX7_byteAt, cX7_byteAt, 2, some FieldType.int, 7, 364), (yX7_put, cX7_put, 2, some FieldType.boolean, 7, 429), (yX8_init, cX8_init, 1, none, 8, 267), (yX8_began, cX8_began, 2, none, 8, 865), (yX9_init, cX9_init, 6, none, 9, 540), (yX9_otherDoor, cX9_otherDoor, 2, some FieldType.int, 9, 683), (yX9_wants, cX9_wants, 4, some FieldType.boolean, 9, 692), (yX9_shares, cX9_shares, 1, some FieldType.boolean, 9, 726), (yX9_takes, cX9_takes, 3, some FieldType.int, 9, 878), (yX9_walks, cX9_walks, 3, some FieldType.int, 9, 898), (yX9_tells, cX9_tells, 3, some FieldType.int, 9, 924), (yX10_init, cX10_init, 1, none, 10, 105), (yX10_copyFrom, cX10_copyFrom, 3, none, 10, 747), (yX10_forgetTallies, cX10_forgetTallies, 1, none, 10, 700), (yX10_layStands, cX10_layStands, 5, none, 10, 784), (yX10_standingInAll, cX10_standingInAll, 1, some FieldType.int, 10, 793), (yX10_wouldTake, cX10_wouldTake, 4, some FieldType.boolean, 10, 661), (yX10_pass, cX10_pass, 6, none, 10, 704), (yX10_walk, cX10_walk, 7, none, 10, 708), (yX10_putDown, cX10_putDown, 3, none, 10, 730), (yX10_moveCart, cX10_moveCart, 6, some FieldType.int, 10, 820), (yX11_init, cX11_init, 2, none, 11, 91), (yX11_stand, cX11_stand, 4, some FieldType.int, 11, 313), (yX11_feed, cX11_feed, 5, some FieldType.int, 11, 320), (yX11_town, cX11_town, 3, some FieldType.int, 11, 324), (yX11_told, cX11_told, 2, some FieldType.int, 11, 521), (yX11_person, cX11_person, 7, some FieldType.int, 11, 529), (yX11_step, cX11_step, 4, some FieldType.int, 11, 649), (yX11_of, cX11_of, 4, some FieldType.int, 11, 657), (yX11_go, cX11_go, 2, some FieldType.int, 11, 696), (yX11_row, cX11_row, 2, some FieldType.int, 11, 735), (yX11_hand, cX11_hand, 5, some FieldType.int, 11, 739), (yX11_mean, cX11_mean, 4, some FieldType.long, 11, 751), (yX11_least, cX11_least, 6, some FieldType.int, 11, 780), (yX11_start, cX11_start, 4, some FieldType.int, 11, 789), (yX11_rule, cX11_rule, 9, some FieldType.int, 11, 804), (yX11_gather, cX11_gather, 4, some FieldType.int, 11, 808), (yX11_penny, cX11_penny, 7, some FieldType.long, 11, 812), (yX11_cart, cX11_cart, 1, some FieldType.int, 11, 816), (yX11_needed, cX11_needed, 1, some FieldType.int, 11, 824), (yX11_book, cX11_book, 3, some FieldType.int, 11, 841), (yX11_vanish, cX11_vanish, 8, some FieldType.int, 11, 845), (yX11_act, cX11_act, 5, some FieldType.int, 11, 854), (yX11_trace, cX11_trace, 2, some FieldType.int, 11, 929), (yX11_as, cX11_as, 4, some FieldType.int, 11, 933), (yX11_image, cX11_image, 1, some FieldType.int, 11, 940), (yX11_undo, cX11_undo, 1, some FieldType.int, 11, 952), (yX11_count, cX11_count, 2, some FieldType.int, 11, 956), (yX11_isDoor, cX11_isDoor, 1, some FieldType.boolean, 11, 316), (yX11_personAt, cX11_personAt, 2, some (FieldType.object "UmbrellaDoors$Walker"), 11, 653), (yX11_oneOf, cX11_oneOf, 5, some (FieldType.object "UmbrellaDoors$Walker"), 11, 532), (yX11_isOfKind, cX11_isOfKind, 2, some FieldType.boolean, 11, 936), (yX11_beginThought, cX11_beginThought, 2, some (FieldType.object "UmbrellaDoors$World"), 11, 743), (yX11_weigh, cX11_weigh, 10, none, 11, 756), (yX11_addWeighed, cX11_addWeighed, 5, none, 11, 760), (yX11_bestStart, cX11_bestStart, 10, some FieldType.int, 11, 797), (yX11_standIn, cX11_standIn, 2, some FieldType.int, 11, 800), (yX11_seekCarts, cX11_seekCarts, 5, none, 11, 828), (yX11_comesFirst, cX11_comesFirst, 3, some FieldType.boolean, 11, 837), (yX11_tenTo, cX11_tenTo, 4, some FieldType.long, 11, 763), (yX11_fractionPart, cX11_fractionPart, 7, some FieldType.long, 11, 767), (yX11_commonDivisor, cX11_commonDivisor, 7, some FieldType.long, 11, 773), (yX12_init, cX12_init, 2, none, 12, 961), (yX12_in, cX12_in, 3, some FieldType.boolean, 12, 1051), (yX12_isDoor, cX12_isDoor, 1, some FieldType.boolean, 12, 1048), (yX12_isPerson, cX12_isPerson, 2, some FieldType.boolean, 12, 1150), (yX12_umbrellas, cX12_umbrellas, 1, some FieldType.int, 12, 1246), (yX12_keeps, cX12_keeps, 3, none, 12, 1198), (yX12_goesBackTo, cX12_goesBackTo, 3, none, 12, 1202), (yX12_stand, cX12_stand, 4, some FieldType.int, 12, 1045), (yX12_feed, cX12_feed, 5, some FieldType.int, 12, 1055), (yX12_here, cX12_here, 1, some FieldType.int, 12, 1068), (yX12_must, cX12_must, 2, none, 12, 1083), (yX12_spells, cX12_spells, 3, none, 12, 1077), (yX12_figures, cX12_figures, 3, some FieldType.int, 12, 1087), (yX12_among, cX12_among, 3, some FieldType.int, 12, 1108), (yX12_emits, cX12_emits, 2, none, 12, 1103), (yX12_factor, cX12_factor, 5, none, 12, 1099), (yX12_every, cX12_every, 1, none, 12, 1095), (yX12_some, cX12_some, 1, none, 12, 1091), (yX12_much, cX12_much, 4, none, 12, 1073), (yX12_tellsHere, cX12_tellsHere, 4, none, 12, 1115), (yX12_clauseOfC, cX12_clauseOfC, 1, none, 12, 1119), (yX12_clauseHere, cX12_clauseHere, 1, none, 12, 1064), (yX12_town, cX12_town, 2, some FieldType.int, 12, 1060), (yX12_tellsOf, cX12_tellsOf, 3, some FieldType.int, 12, 1138), (yX12_looks, cX12_looks, 14, none, 12, 1134), (yX12_rainOf, cX12_rainOf, 3, some FieldType.int, 12, 1130), (yX12_told, cX12_told, 2, some FieldType.int, 12, 1126), (yX12_person, cX12_person, 5, some FieldType.int, 12, 1142), (yX12_step, cX12_step, 4, some FieldType.int, 12, 1146), (yX12_doorOf, cX12_doorOf, 2, some FieldType.int, 12, 1158), (yX12_otherOf, cX12_otherOf, 2, some FieldType.int, 12, 1166), (yX12_doesTake, cX12_doesTake, 6, some FieldType.boolean, 12, 1162), (yX12_of, cX12_of, 3, some FieldType.int, 12, 1154), (yX12_goesAlong, cX12_goesAlong, 4, some FieldType.boolean, 12, 1186), (yX12_walksOut, cX12_walksOut, 5, none, 12, 1182), (yX12_hourGoes, cX12_hourGoes, 5, none, 12, 1178), (yX12_begins, cX12_begins, 1, none, 12, 1174), (yX12_go, cX12_go, 3, some FieldType.int, 12, 1170), (yX12_row, cX12_row, 2, some FieldType.int, 12, 1190), (yX12_hand, cX12_hand, 4, some FieldType.int, 12, 1194), (yX12_allSkies, cX12_allSkies, 6, none, 12, 1215), (yX12_meanOf, cX12_meanOf, 3, some FieldType.long, 12, 1211), (yX12_power, cX12_power, 4, some FieldType.long, 12, 1218), (yX12_divisor, cX12_divisor, 10, some FieldType.long, 12, 1225), (yX12_lowest, cX12_lowest, 5, some FieldType.long, 12, 1222), (yX12_mean, cX12_mean, 6, some FieldType.long, 12, 1206), (yX12_keepsStands, cX12_keepsStands, 2, none, 12, 1233), (yX12_putsStandsBack, cX12_putsStandsBack, 2, none, 12, 1238), (yX12_least, cX12_least, 7, some FieldType.int, 12, 1229), (yX12_start, cX12_start, 11, some FieldType.int, 12, 1242), (yX12_rule, cX12_rule, 11, some FieldType.int, 12, 1250), (yX12_gather, cX12_gather, 6, some FieldType.int, 12, 1254), (yX12_penny, cX12_penny, 9, some FieldType.long, 12, 1258), (yX12_cart, cX12_cart, 4, some FieldType.int, 12, 1262), (yX12_count1, cX12_count1, 3, some FieldType.int, 12, 1269), (yX12_isDry, cX12_isDry, 5, some FieldType.boolean, 12, 1273), (yX12_needed, cX12_needed, 4, some FieldType.int, 12, 1266), (yX12_book, cX12_book, 3, some FieldType.int, 12, 1278), (yX12_vanish, cX12_vanish, 10, some FieldType.int, 12, 1282), (yX12_runs, cX12_runs, 2, none, 12, 1297), (yX12_isUnder, cX12_isUnder, 2, some FieldType.boolean, 12, 1293), (yX12_plainTakes, cX12_plainTakes, 2, some FieldType.int, 12, 1301), (yX12_takesActs, cX12_takesActs, 2, some FieldType.int, 12, 1290), (yX12_plainWalks, cX12_plainWalks, 2, some FieldType.int, 12, 1313), (yX12_backWalks, cX12_backWalks, 2, some FieldType.int, 12, 1309), (yX12_walksActs, cX12_walksActs, 2, some FieldType.int, 12, 1305), (yX12_plainTells, cX12_plainTells, 2, some FieldType.int, 12, 1321), (yX12_tellsActs, cX12_tellsActs, 3, some FieldType.int, 12, 1317), (yX12_act, cX12_act, 4, some FieldType.int, 12, 1286), (yX12_trace, cX12_trace, 2, some FieldType.int, 12, 1325), (yX12_as, cX12_as, 3, some FieldType.int, 12, 1329), (yX12_image, cX12_image, 2, some FieldType.int, 12, 1333), (yX12_undo, cX12_undo, 2, some FieldType.int, 12, 1337), (yX12_count, cX12_count, 2, some FieldType.int, 12, 1341), (yJ0_length_8abf5, cJ0_length_8abf5, 1, some FieldType.int, 20, 354), (yJ0_charAt_5068e, cJ0_charAt_5068e, 2, some FieldType.char, 20, 368), (yJ0_indexOf_0f7a4, cJ0_indexOf_0f7a4, 2, some FieldType.int, 20, 438), (yJ0_indexOf_7cf53, cJ0_indexOf_7cf53, 3, some FieldType.int, 20, 442), (yJ0_coder_7d493, cJ0_coder_7d493, 1, some FieldType.byte, 20, 358), (yJ0_isLatin1_aae02, cJ0_isLatin1_aae02, 1, some FieldType.boolean, 20, 372), (yJ0_checkIndex_df160, cJ0_checkIndex_df160, 2, none, 20, 378), (yJ1_charAt_3b067, cJ1_charAt_3b067, 2, some FieldType.char, 21, 375), (yJ1_canEncode_9a6ad, cJ1_canEncode_9a6ad, 1, some FieldType.boolean, 21, 449), (yJ1_indexOf_4cfef, cJ1_indexOf_4cfef, 4, some FieldType.int, 21, 446), (yJ1_indexOfChar_4cfef, cJ1_indexOfChar_4cfef, 6, some FieldType.int, 21, 456), (yJ3_checkIndex_8e157, cJ3_checkIndex_8e157, 3, some FieldType.int, 23, 383), (yJ6_bitCount_0f7a4, cJ6_bitCount_0f7a4, 1, some FieldType.int, 26, 831), (yJ9_abs_067f4, cJ9_abs_067f4, 2, some FieldType.long, 29, 770), (yJ9_max_7cf53, cJ9_max_7cf53, 2, some FieldType.int, 29, 405), (yJ9_max_f86c9, cJ9_max_f86c9, 4, some FieldType.long, 29, 776), (yJ9_min_7cf53, cJ9_min_7cf53, 2, some FieldType.int, 29, 453), (yL_law, cL_law, 4, some .boolean, 30, 0)]
def am_Ml : List (MethodName × ByteArray × Nat × Option FieldType × Nat × Nat) := am_Ml_1
abbrev am_N : Nat := 195
abbrev am_law : Nat := 194
def am_onL : List (Nat × String) := [(0, "UmbrellaDoors$Ahead"), (1, "UmbrellaDoors$Always"), (2, "UmbrellaDoors$Back"), (3, "UmbrellaDoors$Faithful"), (4, "UmbrellaDoors$Hardy"), (5, "UmbrellaDoors$Sharing"), (6, "UmbrellaDoors$State"), (7, "UmbrellaDoors$Town"), (8, "UmbrellaDoors$Trace"), (9, "UmbrellaDoors$Walker"), (10, "UmbrellaDoors$World"), (11, "UmbrellaDoors"), (12, "UmbrellaDoorsModel"), (20, "java/lang/String"), (21, "java/lang/StringLatin1"), (23, "jdk/internal/util/Preconditions"), (26, "java/lang/Integer"), (29, "java/lang/Math"), (30, "UmbrellaDoorsLaw")]
def am_fldL_1 : List ((Nat × Nat) × Nat × Nat × Nat × List Nat × Nat) := [((0, 9), (2, 0, 0, [11], 117)), ((0, 21), (4, 0, 0, [1, 2], 559)), ((2, 9), (1, 3, 2, [11], 112)), ((2, 15), (1, 0, 2, [3, 4, 6], 545)), ((2, 21), (0, 3, 2, [11], 109)), ((2, 24), (4, 0, 0, [3, 4, 6], 561)), ((3, 9), (0, 3, 2, [11], 108)), ((3, 15), (1, 3, 2, [11], 113)), ((3, 18), (1, 0, 2, [4], 547)), ((3, 38), (4, 0, 0, [4], 563)), ((4, 9), (2, 0, 0, [11], 116)), ((4, 15), (4, 0, 0, [5], 557)), ((5, 17), (1, 0, 2, [6], 549)), ((6, 12), (0, 3, 1, [7], 205)), ((6, 20), (1, 3, 1, [7], 207)), ((6, 24), (2, 3, 1, [7], 210)), ((6, 28), (3, 0, 0, [7], 213)), ((6, 35), (4, 3, 0, [7], 216)), ((6, 39), (5, 0, 0, [7], 219)), ((6, 42), (6, 3, 1, [7], 221)), ((6, 46), (7, 0, 0, [7], 223)), ((6, 49), (8, 3, 1, [7], 225)), ((6, 52), (9, 0, 0, [7], 227)), ((6, 55), (10, 3, 1, [7], 229)), ((6, 58), (11, 3, 1, [7], 231)), ((6, 61), (12, 0, 0, [7], 233)), ((7, 9), (0, 0, 0, [8], 157)), ((7, 15), (1, 0, 0, [8], 160)), ((7, 18), (2, 0, 0, [8], 163)), ((7, 21), (3, 3, 1, [8], 165)), ((7, 25), (4, 3, 1, [8], 166)), ((7, 28), (5, 3, 1, [8], 167)), ((7, 31), (6, 3, 1, [8], 168)), ((7, 34), (7, 0, 0, [8], 169)), ((7, 37), (8, 3, 1, [8], 170)), ((7, 40), (9, 0, 0, [8], 171)), ((7, 43), (10, 3, 1, [8], 172)), ((7, 46), (11, 3, 0, [8], 173)), ((7, 50), (12, 0, 0, [8], 174)), ((7, 53), (13, 0, 0, [8], 175)), ((8, 9), (0, 3, 1, [9], 269)), ((8, 15), (1, 0, 0, [9], 271)), ((9, 9), (0, 0, 1, [1, 2, 3, 4, 5, 6, 10], 542)), ((9, 15), (1, 0, 1, [1, 2, 3, 4, 5, 6, 10], 544)), ((9, 18), (4, 0, 0, [1, 2, 3, 4, 5, 6, 10], 556)), ((9, 21), (2, 0, 1, [1, 2, 3, 4, 5, 6, 10], 552)), ((9, 24), (3, 0, 1, [1, 2, 3, 4, 5, 6, 10], 554)), ((10, 9), (0, 3, 1, [11], 107)), ((10, 15), (1, 3, 1, [11], 111)), ((10, 18), (2, 0, 0, [11], 115)), ((10, 22), (3, 0, 0, [11], 119)), ((10, 25), (4, 0, 0, [11], 121)), ((10, 28), (5, 0, 0, [11], 123)), ((10, 31), (6, 0, 0, [11], 125)), ((10, 34), (7, 3, 1, [11], 127)), ((10, 37), (8, 0, 0, [11], 128)), ((10, 40), (1, 0, 2, [1, 2, 3, 4, 5, 6, 10], 551)), ((10, 49), (3, 0, 0, [7], 215)), ((10, 54), (1, 3, 2, [7], 209)), ((10, 58), (2, 3, 2, [7], 212)), ((10, 61), (4, 3, 0, [7], 218)), ((10, 76), (1, 0, 0, [8], 162)), ((10, 89), (0, 0, 0, [8], 159)), ((11, 12), (0, 3, 1, [12], 281)), ((11, 18), (1, 3, 1, [12], 282)), ((11, 21), (2, 1, 0, [12], 283)), ((11, 28), (3, 3, 1, [12], 284)), ((11, 34), (4, 3, 1, [12], 285)), ((11, 38), (5, 3, 1, [12], 286)), ((11, 42), (6, 2, 0, [12], 287)), ((11, 46), (7, 2, 0, [12], 288)), ((11, 49), (8, 0, 0, [12], 289)), ((11, 58), (0, 3, 2, [7], 206)), ((11, 62), (0, 3, 2, [11], 110)), ((11, 66), (7, 0, 0, [7], 224)), ((11, 69), (6, 3, 2, [7], 222)), ((11, 73), (5, 0, 0, [7], 220)), ((11, 83), (4, 3, 0, [7], 217)), ((11, 87), (2, 0, 0, [11], 118)), ((11, 90), (3, 0, 0, [11], 120)), ((11, 97), (0, 0, 0, [8], 158)), ((11, 100), (1, 0, 0, [8], 161)), ((11, 103), (2, 0, 0, [8], 164)), ((11, 106), (3, 0, 0, [7], 214)), ((11, 109), (1, 3, 2, [7], 208)), ((11, 117), (2, 3, 2, [7], 211)), ((11, 120), (1, 3, 2, [11], 114)), ((11, 127), (0, 0, 2, [1, 2, 3, 4, 5, 6, 10], 543)), ((11, 132), (4, 0, 0, [1, 2, 3, 4, 5, 6, 10], 565)), ((11, 135), (2, 0, 2, [1, 2, 3, 4, 5, 6, 10], 553)), ((11, 138), (3, 0, 2, [1, 2, 3, 4, 5, 6, 10], 555)), ((11, 152), (4, 0, 0, [11], 122)), ((11, 155), (9, 0, 0, [7], 228)), ((11, 158), (8, 3, 2, [7], 226)), ((11, 165), (5, 0, 0, [11], 124)), ((11, 168), (6, 0, 0, [11], 126)), ((11, 209), (12, 0, 0, [7], 234)), ((11, 212), (10, 3, 2, [7], 230)), ((11, 215), (11, 3, 2, [7], 232)), ((11, 221), (1, 0, 0, [9], 272)), ((11, 234), (0, 3, 2, [9], 270)), ((12, 9), (1, 3, 1, [13], 963)), ((12, 15), (2, 3, 1, [13], 964)), ((12, 18), (4, 3, 1, [13], 966)), ((12, 21), (10, 3, 1, [13], 972)), ((12, 24), (11, 3, 1, [13], 973)), ((12, 28), (14, 3, 1, [13], 976)), ((12, 31), (15, 3, 1, [13], 977)), ((12, 34), (16, 3, 1, [13], 978)), ((12, 37), (19, 3, 1, [13], 981)), ((12, 41), (20, 3, 1, [13], 982)), ((12, 44), (21, 3, 1, [13], 983)), ((12, 61), (6, 0, 0, [13], 968)), ((12, 64), (7, 0, 0, [13], 969)), ((12, 67), (8, 1, 0, [13], 970)), ((12, 88), (5, 0, 0, [13], 967)), ((12, 91), (9, 0, 0, [13], 971)), ((12, 146), (12, 0, 0, [13], 974)), ((12, 149), (13, 1, 0, [13], 975)), ((12, 196), (17, 2, 0, [13], 979)), ((12, 200), (18, 2, 0, [13], 980)), ((12, 246), (22, 0, 0, [13], 984)), ((12, 252), (24, 0, 0, [13], 986)), ((12, 255), (23, 0, 0, [13], 985)), ((12, 267), (25, 0, 0, [13], 987)), ((12, 285), (3, 1, 0, [13], 965))]
def am_fldL : List ((Nat × Nat) × Nat × Nat × Nat × List Nat × Nat) := am_fldL_1
def am_sfL_1 : List ((Nat × Nat) × Nat × Nat) := [((20, 9), (0, 1362)), ((20, 15), (1, 1363))]
def am_sfL : List ((Nat × Nat) × Nat × Nat) := am_sfL_1
def am_newL_1 : List ((Nat × Nat) × Nat × Nat × Nat × Nat × Nat) := [((6, 9), (11, 9, 101, 102, 68)), ((6, 32), (8, 14, 151, 152, 69)), ((11, 9), (7, 13, 95, 96, 67)), ((11, 25), (9, 2, 263, 264, 70)), ((11, 32), (11, 9, 278, 102, 68)), ((11, 76), (8, 14, 325, 152, 69)), ((11, 128), (10, 5, 637, 638, 78)), ((11, 245), (1, 5, 533, 534, 79)), ((11, 250), (3, 5, 577, 578, 80)), ((11, 253), (5, 5, 589, 590, 81)), ((11, 256), (2, 5, 601, 602, 82)), ((11, 259), (6, 5, 613, 614, 83)), ((11, 262), (4, 5, 625, 626, 84)), ((30, 7), (12, 9, 87, 88, 66)), ((30, 10), (13, 26, 957, 958, 71))]
def am_newL : List ((Nat × Nat) × Nat × Nat × Nat × Nat × Nat) := am_newL_1
def am_anewL_1 : List ((Nat × Nat) × Nat × Nat × Nat) := [((6, 18), (25, 149, 150)), ((11, 32), (24, 278, 279))]
def am_anewL : List ((Nat × Nat) × Nat × Nat × Nat) := am_anewL_1
def am_instL_1 : List ((Nat × Nat) × List Nat × List Nat × Nat) := [((11, 245), ([1, 2], [3, 4, 5, 6, 10], 533)), ((11, 250), ([3, 4, 6], [1, 2, 5, 10], 577)), ((11, 253), ([5], [1, 2, 3, 4, 6, 10], 589)), ((11, 256), ([2], [1, 3, 4, 5, 6, 10], 601)), ((11, 259), ([6], [1, 2, 3, 4, 5, 10], 613)), ((11, 262), ([4], [1, 2, 3, 5, 6, 10], 625))]
def am_instL : List ((Nat × Nat) × List Nat × List Nat × Nat) := am_instL_1
def am_ldcL_1 : List ((Nat × Nat) × Value × Nat) := [((7, 119), (.ref 10, 342)), ((7, 121), (.ref 11, 343)), ((7, 122), (.ref 12, 344)), ((7, 123), (.ref 13, 345)), ((7, 125), (.ref 14, 346)), ((7, 147), (.ref 15, 434)), ((7, 152), (.ref 16, 492)), ((12, 103), (.ref 18, 1104)), ((12, 109), (.ref 19, 1109)), ((12, 121), (.ref 22, 1120)), ((12, 123), (.ref 23, 1121)), ((12, 129), (.ref 24, 1122)), ((12, 131), (.ref 17, 1069)), ((12, 136), (.ref 20, 1110)), ((12, 138), (.ref 21, 1111))]
def am_ldcL : List ((Nat × Nat) × Value × Nat) := am_ldcL_1
def am_ldwL_1 : List ((Nat × Nat) × Int32 × Nat) := [((26, 265), (1431655765, 832)), ((26, 266), (858993459, 833)), ((26, 267), (252645135, 834))]
def am_ldwL : List ((Nat × Nat) × Int32 × Nat) := am_ldwL_1
def am_ld2L_1 : List ((Nat × Nat) × Int64 × Nat) := [((11, 171), (-9223372036854775808, 752)), ((11, 189), (100, 785)), ((11, 282), (10, 764)), ((12, 59), (255, 1056)), ((12, 207), (10, 1219)), ((12, 213), (-9223372036854775808, 1207)), ((12, 229), (100, 1234)), ((30, 18), (4294967295, 1342))]
def am_ld2L : List ((Nat × Nat) × Int64 × Nat) := am_ld2L_1
def am_gstL_1 : List ((Nat × Nat) × Nat × Nat) := [((20, 38), (0, 359)), ((20, 1053), (1, 379))]
def am_gstL : List ((Nat × Nat) × Nat × Nat) := am_gstL_1
def am_isL_1 : List ((Nat × Nat) × Nat × Nat × List Nat) := [((6, 74), (2, 191, [850, 404, 76])), ((7, 97), (2, 193, [513, 452, 76])), ((7, 103), (1, 33, [339, 340, 69])), ((7, 116), (2, 191, [403, 404, 76])), ((10, 92), (2, 193, [731, 452, 76])), ((11, 54), (1, 89, [314, 315, 66])), ((11, 113), (5, 91, [530, 531, 66])), ((11, 177), (1, 100, [761, 762, 66])), ((11, 181), (3, 101, [765, 766, 66])), ((11, 198), (2, 97, [798, 799, 66])), ((11, 237), (2, 92, [934, 935, 66])), ((11, 273), (1, 189, [829, 830, 85])), ((11, 278), (2, 99, [835, 836, 66])), ((11, 284), (1, 190, [768, 769, 76])), ((11, 290), (2, 102, [771, 772, 66])), ((11, 294), (2, 192, [774, 775, 76])), ((12, 51), (3, 104, [1049, 1050, 71])), ((12, 55), (1, 105, [1046, 1047, 71])), ((12, 209), (2, 146, [1223, 1224, 71])), ((12, 219), (1, 145, [1216, 1217, 71])), ((12, 222), (3, 147, [1220, 1221, 71])), ((12, 240), (1, 157, [1267, 1268, 71])), ((12, 258), (2, 163, [1291, 1292, 71])), ((20, 495), (2, 184, [373, 374, 73])), ((20, 637), (4, 186, [444, 445, 73])), ((20, 1059), (3, 188, [381, 382, 74])), ((21, 9), (2, 183, [376, 377, 72])), ((21, 38), (2, 193, [451, 452, 76])), ((21, 88), (1, 185, [447, 448, 73])), ((21, 92), (2, 191, [450, 404, 76])), ((21, 95), (4, 187, [454, 455, 73]))]
def am_isL : List ((Nat × Nat) × Nat × Nat × List Nat) := am_isL_1
def am_ipL_1 : List ((Nat × Nat) × Nat × Nat × Nat × List Nat × List Nat) := [((0, 3), (5, 45, 1, [1, 2, 3, 4, 5, 6, 10], [538, 539, 78])), ((0, 32), (2, 49, 3, [1, 2], [866, 858, 576, 856, 78])), ((1, 1), (5, 0, 1, [1, 2], [606, 536, 79])), ((1, 13), (2, 51, 4, [2], [909, 910, 612, 576, 901, 78])), ((2, 3), (5, 45, 1, [1, 2, 3, 4, 5, 6, 10], [582, 539, 78])), ((2, 37), (2, 50, 3, [3, 4, 6], [890, 883, 588, 881, 78])), ((3, 3), (5, 6, 1, [3, 4, 6], [630, 580, 80])), ((3, 24), (3, 7, 3, [4], [687, 1343, 636, 674, 80])), ((3, 34), (2, 8, 3, [4], [895, 1352, 636, 887, 80])), ((4, 3), (5, 45, 1, [1, 2, 3, 4, 5, 6, 10], [594, 539, 78])), ((4, 26), (2, 51, 3, [5], [922, 903, 600, 901, 78])), ((5, 1), (5, 6, 1, [3, 4, 6], [618, 580, 80])), ((5, 13), (2, 49, 4, [6], [875, 876, 624, 588, 856, 78])), ((6, 11), (0, 52, 2, [11], [103, 104, 68])), ((6, 34), (0, 21, 2, [8], [153, 154, 69])), ((11, 11), (0, 18, 2, [7], [97, 98, 67])), ((11, 27), (0, 43, 2, [9], [265, 266, 70])), ((11, 53), (0, 52, 2, [11], [280, 104, 68])), ((11, 78), (0, 21, 2, [8], [326, 154, 69])), ((11, 247), (5, 0, 1, [1, 2], [535, 536, 79])), ((11, 252), (5, 6, 1, [3, 4, 6], [579, 580, 80])), ((11, 255), (5, 12, 1, [5], [591, 592, 81])), ((11, 258), (5, 3, 1, [2], [603, 604, 82])), ((11, 261), (5, 15, 1, [6], [615, 616, 83])), ((11, 264), (5, 9, 1, [4], [627, 628, 84])), ((11, 265), (5, 45, 1, [1, 2, 3, 4, 5, 6, 10], [639, 539, 78])), ((30, 9), (0, 62, 1, [12], [89, 90, 66])), ((30, 12), (0, 103, 1, [13], [959, 960, 71]))]
def am_ipL : List ((Nat × Nat) × Nat × Nat × Nat × List Nat × List Nat) := am_ipL_1
def am_ivL_1 : List ((Nat × Nat) × Nat × List (Nat × Nat × Nat × List Nat)) := [((0, 15), (2, [(8, 22, 0, [669, 523, 524, 69])])), ((0, 26), (1, [(9, 44, 0, [862, 863, 864, 70])])), ((1, 7), (1, [(9, 44, 0, [908, 863, 864, 70])])), ((1, 17), (2, [(2, 2, 1, [912, 913, 860, 915, 860, 79, 861])])), ((2, 27), (1, [(3, 46, 1, [676, 677, 682, 679, 682, 78, 683]), (4, 46, 1, [676, 677, 682, 680, 682, 78, 683]), (6, 46, 1, [676, 677, 682, 681, 682, 78, 683])])), ((2, 31), (1, [(9, 44, 0, [889, 863, 864, 70])])), ((3, 28), (1, [(9, 44, 0, [894, 863, 864, 70])])), ((4, 20), (1, [(9, 44, 0, [921, 863, 864, 70])])), ((5, 7), (1, [(9, 44, 0, [874, 863, 864, 70])])), ((6, 64), (1, [(11, 53, 0, [945, 745, 746, 68])])), ((7, 56), (5, [(8, 24, 0, [501, 503, 13, 69])])), ((7, 60), (2, [(8, 25, 0, [505, 507, 14, 69])])), ((7, 64), (1, [(8, 26, 0, [509, 511, 15, 69])])), ((7, 68), (0, [(8, 28, 0, [331, 333, 0, 69])])), ((7, 72), (1, [(8, 40, 0, [406, 408, 4, 69])])), ((7, 76), (0, [(8, 32, 0, [335, 337, 1, 69])])), ((7, 80), (0, [(8, 35, 0, [410, 412, 5, 69])])), ((7, 83), (1, [(8, 36, 0, [414, 416, 6, 69])])), ((7, 86), (3, [(8, 29, 0, [493, 495, 11, 69])])), ((7, 90), (2, [(8, 30, 0, [497, 499, 12, 69])])), ((7, 94), (2, [(8, 31, 0, [514, 516, 16, 69])])), ((7, 107), (1, [(8, 34, 0, [347, 349, 2, 69])])), ((7, 111), (0, [(31, 177, 0, [351, 352, 353, 72])])), ((7, 127), (1, [(8, 41, 0, [361, 363, 3, 69])])), ((7, 131), (1, [(31, 178, 0, [365, 366, 367, 72])])), ((7, 135), (1, [(8, 37, 0, [418, 420, 7, 69])])), ((7, 138), (1, [(8, 42, 0, [426, 428, 9, 69])])), ((7, 141), (1, [(8, 38, 0, [422, 424, 8, 69])])), ((7, 144), (0, [(8, 39, 0, [430, 432, 10, 69])])), ((7, 149), (1, [(31, 179, 0, [435, 436, 437, 72])])), ((9, 27), (1, [(9, 44, 0, [879, 863, 864, 70])])), ((9, 33), (2, [(1, 2, 1, [899, 858, 856, 859, 860, 79, 878]), (2, 2, 1, [899, 858, 856, 867, 860, 79, 878]), (3, 49, 1, [899, 858, 856, 868, 856, 78, 878]), (4, 49, 1, [899, 858, 856, 869, 856, 78, 878]), (5, 49, 1, [899, 858, 856, 870, 856, 78, 878]), (6, 17, 1, [899, 858, 856, 871, 872, 83, 878]), (10, 49, 0, [899, 856, 857, 78])])), ((9, 37), (2, [(1, 50, 1, [925, 883, 881, 884, 881, 78, 898]), (2, 50, 1, [925, 883, 881, 885, 881, 78, 898]), (3, 8, 1, [925, 883, 881, 886, 887, 80, 898]), (4, 11, 1, [925, 883, 881, 891, 892, 84, 898]), (5, 50, 1, [925, 883, 881, 896, 881, 78, 898]), (6, 8, 1, [925, 883, 881, 897, 887, 80, 898]), (10, 50, 0, [925, 881, 882, 78])])), ((10, 45), (3, [(1, 1, 1, [662, 665, 663, 666, 667, 79, 692]), (2, 4, 1, [662, 665, 663, 670, 671, 82, 692]), (3, 7, 1, [662, 665, 663, 673, 674, 80, 692]), (4, 10, 1, [662, 665, 663, 684, 685, 84, 692]), (5, 13, 1, [662, 665, 663, 688, 689, 81, 692]), (6, 7, 1, [662, 665, 663, 691, 674, 80, 692]), (10, 47, 0, [662, 663, 664, 78])])), ((10, 65), (2, [(11, 59, 0, [705, 707, 18, 68])])), ((10, 69), (0, [(11, 60, 0, [727, 729, 19, 68])])), ((10, 72), (1, [(1, 46, 1, [709, 1344, 682, 1345, 682, 78, 683]), (2, 46, 1, [709, 1344, 682, 1346, 682, 78, 683]), (3, 46, 1, [709, 1344, 682, 1347, 682, 78, 683]), (4, 46, 1, [709, 1344, 682, 1348, 682, 78, 683]), (5, 46, 1, [709, 1344, 682, 1349, 682, 78, 683]), (6, 46, 1, [709, 1344, 682, 1350, 682, 78, 683]), (10, 46, 0, [709, 682, 1351, 78])])), ((10, 81), (5, [(8, 23, 0, [710, 711, 712, 69])])), ((10, 85), (0, [(1, 48, 1, [714, 717, 715, 718, 715, 78, 726]), (2, 48, 1, [714, 717, 715, 719, 715, 78, 726]), (3, 48, 1, [714, 717, 715, 720, 715, 78, 726]), (4, 48, 1, [714, 717, 715, 721, 715, 78, 726]), (5, 48, 1, [714, 717, 715, 722, 715, 78, 726]), (6, 16, 1, [714, 717, 715, 723, 724, 83, 726]), (10, 48, 0, [714, 715, 716, 78])])), ((11, 79), (2, [(8, 27, 0, [327, 328, 329, 69])])), ((11, 93), (2, [(8, 22, 0, [522, 523, 524, 69])])), ((11, 123), (1, [(12, 90, 0, [650, 652, 17, 66])])), ((11, 141), (3, [(11, 57, 0, [658, 659, 660, 68])])), ((11, 145), (0, [(11, 54, 0, [697, 698, 699, 68])])), ((11, 148), (2, [(11, 58, 0, [701, 702, 703, 68])])), ((11, 161), (0, [(12, 93, 0, [740, 742, 20, 66])])), ((11, 173), (3, [(12, 94, 0, [753, 755, 21, 66])])), ((11, 185), (4, [(11, 55, 0, [781, 782, 783, 68])])), ((11, 191), (0, [(11, 56, 0, [790, 791, 792, 68])])), ((11, 195), (2, [(12, 96, 0, [794, 796, 23, 66])])), ((11, 201), (1, [(11, 61, 0, [817, 818, 819, 68])])), ((11, 205), (2, [(12, 98, 0, [825, 827, 24, 66])])), ((11, 218), (1, [(7, 20, 0, [846, 847, 848, 67])])), ((11, 224), (2, [(1, 2, 1, [855, 858, 856, 859, 860, 79, 878]), (2, 2, 1, [855, 858, 856, 867, 860, 79, 878]), (3, 49, 1, [855, 858, 856, 868, 856, 78, 878]), (4, 49, 1, [855, 858, 856, 869, 856, 78, 878]), (5, 49, 1, [855, 858, 856, 870, 856, 78, 878]), (6, 17, 1, [855, 858, 856, 871, 872, 83, 878]), (10, 49, 0, [855, 856, 857, 78])])), ((11, 228), (2, [(1, 50, 1, [880, 883, 881, 884, 881, 78, 898]), (2, 50, 1, [880, 883, 881, 885, 881, 78, 898]), (3, 8, 1, [880, 883, 881, 886, 887, 80, 898]), (4, 11, 1, [880, 883, 881, 891, 892, 84, 898]), (5, 50, 1, [880, 883, 881, 896, 881, 78, 898]), (6, 8, 1, [880, 883, 881, 897, 887, 80, 898]), (10, 50, 0, [880, 881, 882, 78])])), ((11, 231), (2, [(1, 51, 1, [900, 903, 901, 904, 901, 78, 924]), (2, 5, 1, [900, 903, 901, 905, 906, 82, 924]), (3, 51, 1, [900, 903, 901, 916, 901, 78, 924]), (4, 51, 1, [900, 903, 901, 917, 901, 78, 924]), (5, 14, 1, [900, 903, 901, 918, 919, 81, 924]), (6, 51, 1, [900, 903, 901, 923, 901, 78, 924]), (10, 51, 0, [900, 901, 902, 78])])), ((11, 241), (1, [(7, 19, 0, [941, 942, 943, 67])])), ((11, 266), (1, [(11, 53, 0, [744, 745, 746, 68])])), ((11, 269), (2, [(12, 95, 0, [757, 759, 22, 66])])), ((12, 71), (0, [(13, 112, 0, [1065, 1067, 26, 71])])), ((12, 75), (0, [(31, 177, 0, [1078, 352, 353, 72])])), ((12, 80), (1, [(31, 178, 0, [1079, 366, 367, 72])])), ((12, 84), (1, [(13, 113, 0, [1080, 1082, 29, 71])])), ((12, 94), (0, [(13, 118, 0, [1096, 1098, 33, 71])])), ((12, 97), (1, [(13, 117, 0, [1100, 1102, 34, 71])])), ((12, 100), (0, [(13, 120, 0, [1088, 1090, 31, 71])])), ((12, 105), (1, [(13, 116, 0, [1105, 1107, 35, 71])])), ((12, 111), (0, [(13, 115, 0, [1084, 1086, 30, 71])])), ((12, 114), (0, [(13, 119, 0, [1092, 1094, 32, 71])])), ((12, 117), (1, [(13, 114, 0, [1074, 1076, 28, 71])])), ((12, 125), (2, [(13, 122, 0, [1112, 1114, 36, 71])])), ((12, 133), (2, [(13, 121, 0, [1070, 1072, 27, 71])])), ((12, 140), (0, [(13, 123, 0, [1116, 1118, 37, 71])])), ((12, 143), (0, [(13, 124, 0, [1061, 1063, 25, 71])])), ((12, 152), (2, [(13, 126, 0, [1135, 1137, 40, 71])])), ((12, 156), (5, [(13, 127, 0, [1131, 1133, 39, 71])])), ((12, 160), (2, [(13, 128, 0, [1127, 1129, 38, 71])])), ((12, 163), (1, [(13, 106, 0, [1147, 1149, 41, 71])])), ((12, 166), (1, [(13, 132, 0, [1155, 1157, 42, 71])])), ((12, 170), (1, [(13, 133, 0, [1163, 1165, 44, 71])])), ((12, 173), (2, [(13, 134, 0, [1159, 1161, 43, 71])])), ((12, 177), (1, [(13, 136, 0, [1183, 1185, 48, 71])])), ((12, 180), (2, [(13, 137, 0, [1179, 1181, 47, 71])])), ((12, 184), (0, [(13, 139, 0, [1171, 1173, 45, 71])])), ((12, 187), (1, [(13, 138, 0, [1175, 1177, 46, 71])])), ((12, 190), (1, [(13, 108, 0, [1195, 1197, 49, 71])])), ((12, 193), (1, [(13, 109, 0, [1199, 1201, 50, 71])])), ((12, 203), (3, [(13, 143, 0, [1212, 1214, 52, 71])])), ((12, 215), (1, [(13, 144, 0, [1208, 1210, 51, 71])])), ((12, 226), (0, [(13, 149, 0, [1230, 1232, 53, 71])])), ((12, 231), (0, [(13, 150, 0, [1235, 1237, 54, 71])])), ((12, 234), (0, [(13, 107, 0, [1243, 1245, 55, 71])])), ((12, 237), (0, [(13, 156, 0, [1274, 1260, 1261, 71])])), ((12, 243), (2, [(13, 158, 0, [1270, 1272, 56, 71])])), ((12, 249), (1, [(13, 162, 0, [1294, 1296, 58, 71])])), ((12, 261), (1, [(13, 164, 0, [1298, 1300, 59, 71])])), ((12, 264), (1, [(13, 165, 0, [1287, 1289, 57, 71])])), ((12, 270), (1, [(13, 166, 0, [1310, 1312, 62, 71])])), ((12, 273), (1, [(13, 167, 0, [1306, 1308, 61, 71])])), ((12, 276), (1, [(13, 168, 0, [1302, 1304, 60, 71])])), ((12, 279), (1, [(13, 169, 0, [1318, 1320, 64, 71])])), ((12, 282), (1, [(13, 170, 0, [1314, 1316, 63, 71])])), ((20, 335), (0, [(31, 181, 0, [355, 356, 357, 72])])), ((20, 492), (0, [(31, 182, 0, [369, 370, 371, 72])])), ((20, 505), (0, [(31, 177, 0, [443, 352, 353, 72])])), ((20, 633), (2, [(31, 180, 0, [439, 440, 441, 72])])), ((30, 13), (2, [(12, 63, 0, [310, 311, 312, 66])])), ((30, 17), (2, [(13, 110, 0, [1042, 1043, 1044, 71])])), ((30, 20), (2, [(12, 64, 0, [317, 318, 319, 66])])), ((30, 24), (2, [(13, 111, 0, [1052, 1053, 1054, 71])])), ((30, 25), (0, [(12, 65, 0, [321, 322, 323, 66])])), ((30, 29), (0, [(13, 125, 0, [1057, 1058, 1059, 71])])), ((30, 30), (1, [(12, 66, 0, [518, 519, 520, 66])])), ((30, 34), (1, [(13, 129, 0, [1123, 1124, 1125, 71])])), ((30, 35), (3, [(12, 67, 0, [526, 527, 528, 66])])), ((30, 39), (3, [(13, 130, 0, [1139, 1140, 1141, 71])])), ((30, 40), (2, [(12, 68, 0, [646, 647, 648, 66])])), ((30, 43), (2, [(13, 131, 0, [1143, 1144, 1145, 71])])), ((30, 44), (2, [(12, 69, 0, [654, 655, 656, 66])])), ((30, 47), (2, [(13, 135, 0, [1151, 1152, 1153, 71])])), ((30, 48), (1, [(12, 70, 0, [693, 694, 695, 66])])), ((30, 51), (1, [(13, 140, 0, [1167, 1168, 1169, 71])])), ((30, 52), (1, [(12, 71, 0, [732, 733, 734, 66])])), ((30, 55), (1, [(13, 141, 0, [1187, 1188, 1189, 71])])), ((30, 56), (2, [(12, 72, 0, [736, 737, 738, 66])])), ((30, 59), (2, [(13, 142, 0, [1191, 1192, 1193, 71])])), ((30, 60), (3, [(12, 73, 0, [748, 749, 750, 66])])), ((30, 64), (3, [(13, 148, 0, [1203, 1204, 1205, 71])])), ((30, 65), (2, [(12, 74, 0, [777, 778, 779, 66])])), ((30, 68), (2, [(13, 151, 0, [1226, 1227, 1228, 71])])), ((30, 69), (2, [(12, 75, 0, [786, 787, 788, 66])])), ((30, 72), (2, [(13, 152, 0, [1239, 1240, 1241, 71])])), ((30, 73), (2, [(12, 76, 0, [801, 802, 803, 66])])), ((30, 76), (2, [(13, 153, 0, [1247, 1248, 1249, 71])])), ((30, 77), (1, [(12, 77, 0, [805, 806, 807, 66])])), ((30, 80), (1, [(13, 154, 0, [1251, 1252, 1253, 71])])), ((30, 81), (3, [(12, 78, 0, [809, 810, 811, 66])])), ((30, 84), (3, [(13, 155, 0, [1255, 1256, 1257, 71])])), ((30, 85), (0, [(12, 79, 0, [813, 814, 815, 66])])), ((30, 88), (0, [(13, 156, 0, [1259, 1260, 1261, 71])])), ((30, 89), (0, [(12, 80, 0, [821, 822, 823, 66])])), ((30, 92), (0, [(13, 159, 0, [1263, 1264, 1265, 71])])), ((30, 93), (2, [(12, 81, 0, [838, 839, 840, 66])])), ((30, 96), (2, [(13, 160, 0, [1275, 1276, 1277, 71])])), ((30, 97), (1, [(12, 82, 0, [842, 843, 844, 66])])), ((30, 100), (1, [(13, 161, 0, [1279, 1280, 1281, 71])])), ((30, 101), (3, [(12, 83, 0, [851, 852, 853, 66])])), ((30, 104), (3, [(13, 171, 0, [1283, 1284, 1285, 71])])), ((30, 105), (1, [(12, 84, 0, [926, 927, 928, 66])])), ((30, 108), (1, [(13, 172, 0, [1322, 1323, 1324, 71])])), ((30, 109), (2, [(12, 85, 0, [930, 931, 932, 66])])), ((30, 112), (2, [(13, 173, 0, [1326, 1327, 1328, 71])])), ((30, 113), (0, [(12, 86, 0, [937, 938, 939, 66])])), ((30, 116), (0, [(13, 174, 0, [1330, 1331, 1332, 71])])), ((30, 117), (0, [(12, 87, 0, [949, 950, 951, 66])])), ((30, 120), (0, [(13, 175, 0, [1334, 1335, 1336, 71])])), ((30, 121), (1, [(12, 88, 0, [953, 954, 955, 66])])), ((30, 124), (1, [(13, 176, 0, [1338, 1339, 1340, 71])]))]
def am_ivL : List ((Nat × Nat) × Nat × List (Nat × Nat × Nat × List Nat)) := am_ivL_1
def am_acL_1 : List ((Nat × Nat) × Nat) := [((6, 68), 946)]
def am_acL : List ((Nat × Nat) × Nat) := am_acL_1
def am_oiL_1 : List ((Nat × Nat) × Nat) := [((6, 3), 100), ((7, 3), 156), ((8, 3), 268), ((9, 3), 541), ((10, 3), 106), ((11, 3), 92), ((12, 3), 962)]
def am_oiL : List ((Nat × Nat) × Nat) := am_oiL_1
def am_sysJ : Nat × Nat × Nat := (948, 947, 86)
def am_objJ : Nat × Nat := (93, 94)
def am_arrJ : List Nat := [148, 309, 262, 1041]
def am_strL : List (String × Nat × String × Nat × List Int32) := [("UmbrellaDoors$Town", 119, "rain", 342, [114, 97, 105, 110]), ("UmbrellaDoors$Town", 121, "wet", 343, [119, 101, 116]), ("UmbrellaDoors$Town", 122, "carry", 344, [99, 97, 114, 114, 121]), ("UmbrellaDoors$Town", 123, "lost", 345, [108, 111, 115, 116]), ("UmbrellaDoors$Town", 125, "cart", 346, [99, 97, 114, 116]), ("UmbrellaDoors$Town", 147, "shpdu", 434, [115, 104, 112, 100, 117]), ("UmbrellaDoors$Town", 152, "<=>", 492, [60, 61, 62]), ("UmbrellaDoorsModel", 131, "rain ", 1069, [114, 97, 105, 110, 32]), ("UmbrellaDoorsModel", 103, "shpdu", 1104, [115, 104, 112, 100, 117]), ("UmbrellaDoorsModel", 109, "<=>", 1109, [60, 61, 62]), ("UmbrellaDoorsModel", 136, "lost ", 1110, [108, 111, 115, 116, 32]), ("UmbrellaDoorsModel", 138, "wet ", 1111, [119, 101, 116, 32]), ("UmbrellaDoorsModel", 121, "car", 1120, [99, 97, 114]), ("UmbrellaDoorsModel", 123, "ry ", 1121, [114, 121, 32]), ("UmbrellaDoorsModel", 129, "t ", 1122, [116, 32])]
/-! AM: a small machine over numbers: memory is a map of addresses to shapes and rows; one step function; what the claim's machine does, it does. -/
/-- shapes (what stands at an address: kind, length), whole numbers, longs, references (100 and on: own cells), the next address, fields and elements made -/
abbrev am_Mem : Type := (Nat → Nat × Nat) × (Nat → Nat → Int32) × (Nat → Nat → Int64) × (Nat → Nat → Option Nat) × Nat × Nat
abbrev am_Loc : Type := List (Option Value)
abbrev am_Out : Type := Option ((Nat × am_Loc × List Value × am_Mem) ⊕ (Option Value × am_Mem) ⊕ (Nat × List Value × List Value))
def am_m (y : Nat) : MethodName × ByteArray × Nat × Option FieldType × Nat × Nat := am_Ml.getD y (yL_law, ⟨#[]⟩, 0, none, 99, 0)
abbrev am_nm (y : Nat) : MethodName := (am_m y).1
abbrev am_bc (y : Nat) : ByteArray := (am_m y).2.1
abbrev am_mx (y : Nat) : Nat := (am_m y).2.2.1
abbrev am_rt (y : Nat) : Option FieldType := (am_m y).2.2.2.1
abbrev am_ow (y : Nat) : Nat := (am_m y).2.2.2.2.1
def am_lk {α : Type} (l : List ((Nat × Nat) × α)) (o x : Nat) : Option α := (l.find? (fun q => q.1.1 == o && q.1.2 == x)).map (·.2)
def am_on (o : Nat) : String := ((am_onL.find? (fun q => q.1 == o)).map (·.2)).getD ""
/-- a row of rows with one place changed -/
def am_u {α : Type} (f : Nat → Nat → α) (a k : Nat) (x : α) : Nat → Nat → α := fun b j => if b = a ∧ j = k then x else f b j
/-- a stretch of a row taken from another -/
def am_cpy (f : Nat → Nat → Int32) (src sp dst dp n : Nat) : Nat → Nat → Int32 := fun b j => if b = dst ∧ dp ≤ j ∧ j < dp + n then f src (sp + (j - dp)) else f b j
def am_tu (T : Nat → Nat × Nat) (a : Nat) (x : Nat × Nat) : Nat → Nat × Nat := fun b => if b = a then x else T b
def am_ix (j : Int32) (n : Nat) : Bool := !decide (j < 0) && decide (j.toNatClampNeg < n)
def am_ld (ls : am_Loc) (i : Nat) : Option Value := (ls[i]?).getD none
def am_kl (o : Option Value) : Option Value := match o with
  | some v => if v.category = 2 then none else some v
  | none => none
def am_kill (ls : am_Loc) (i : Nat) : am_Loc := match i with
  | 0 => ls
  | k + 1 => ls.set k (am_kl (am_ld ls k))
def am_s1 (ls : am_Loc) (i : Nat) (v : Value) : am_Loc := (am_kill ls i).set i (some v)
def am_s2 (ls : am_Loc) (i : Nat) (v : Value) : am_Loc := ((am_kill ls i).set i (some v)).set (i + 1) none
def am_v (r : Option Nat) : Value := match r with
  | none => .null
  | some a => .ref a
def am_nx (pc : Nat) (ls : am_Loc) (st : List Value) (M : am_Mem) : am_Out := some (.inl (pc, ls, st, M))
def am_br (pc : Nat) (off : Int) (ls : am_Loc) (st : List Value) (M : am_Mem) : am_Out := if 0 ≤ (pc : Int) + off then am_nx ((pc : Int) + off).toNat ls st M else none
def am_cc (c : Jvm.ClassFile.Cond) (x y : Int32) : Bool := match c with
  | .eq => decide (x = y)
  | .ne => !decide (x = y)
  | .lt => decide (x < y)
  | .ge => decide (x ≥ y)
  | .gt => decide (x > y)
  | .le => decide (x ≤ y)
def am_li (ls : am_Loc) (i pc : Nat) (st : List Value) (M : am_Mem) : am_Out := match am_ld ls i with
  | some (.int x) => am_nx pc ls (.int x :: st) M
  | _ => none
def am_ll (ls : am_Loc) (i pc : Nat) (st : List Value) (M : am_Mem) : am_Out := match am_ld ls i with
  | some (.long x) => am_nx pc ls (.long x :: st) M
  | _ => none
def am_isr (v : Value) : Bool := match v with
  | .ref _ => true
  | .null => true
  | _ => false
def am_la (ls : am_Loc) (i pc : Nat) (st : List Value) (M : am_Mem) : am_Out := match am_ld ls i with
  | some v => if am_isr v = true then am_nx pc ls (v :: st) M else none
  | none => none
def am_si (n : Nat) (ls : am_Loc) (i pc : Nat) (st : List Value) (M : am_Mem) : am_Out := match st with
  | .int x :: r => if i < n then am_nx pc (am_s1 ls i (.int x)) r M else none
  | _ => none
def am_sl (n : Nat) (ls : am_Loc) (i pc : Nat) (st : List Value) (M : am_Mem) : am_Out := match st with
  | .long x :: r => if i + 1 < n then am_nx pc (am_s2 ls i (.long x)) r M else none
  | _ => none
def am_sa (n : Nat) (ls : am_Loc) (i pc : Nat) (st : List Value) (M : am_Mem) : am_Out := match st with
  | v :: r => if i < n ∧ am_isr v = true then am_nx pc (am_s1 ls i v) r M else none
  | [] => none
def am_i2 (f : Int32 → Int32 → Int32) (pc : Nat) (ls : am_Loc) (st : List Value) (M : am_Mem) : am_Out := match st with
  | .int y :: .int x :: r => am_nx (pc + 1) ls (.int (f x y) :: r) M
  | _ => none
def am_l2 (f : Int64 → Int64 → Int64) (pc : Nat) (ls : am_Loc) (st : List Value) (M : am_Mem) : am_Out := match st with
  | .long y :: .long x :: r => am_nx (pc + 1) ls (.long (f x y) :: r) M
  | _ => none
def am_i1 (f : Int32 → Int32) (pc : Nat) (ls : am_Loc) (st : List Value) (M : am_Mem) : am_Out := match st with
  | .int x :: r => am_nx (pc + 1) ls (.int (f x) :: r) M
  | _ => none
def am_arr (T : Nat → Nat × Nat) (tags : List Nat) (a : Nat) (j : Int32) : Bool := tags.contains (T a).1 && am_ix j (T a).2
def am_get (o x pc : Nat) (ls : am_Loc) (st : List Value) (M : am_Mem) : am_Out := match st with
  | .ref a :: r => match am_lk am_fldL o x with
    | some (k, code, _, tags, _) => if tags.contains (M.1 a).1 then am_nx (pc + 3) ls ((match code with | 2 => .long (M.2.2.1 a k) | 3 => am_v (M.2.2.2.1 a k) | _ => .int (M.2.1 a k)) :: r) M else none
    | none => match am_lk am_sfL o x with
      | some (0, _) => if (M.1 a).1 = 31 then am_nx (pc + 3) ls (.ref (a + 20) :: r) M else none
      | some (_ + 1, _) => if (M.1 a).1 = 31 then am_nx (pc + 3) ls (.int 0 :: r) M else none
      | none => none
  | _ => none
def am_put (y o x pc : Nat) (ls : am_Loc) (st : List Value) (M : am_Mem) : am_Out := match am_lk am_fldL o x with
  | some (k, code, fin, tags, _) => if ¬ fin = 0 ∧ ¬ (fin = 1 ∧ (am_nm y).name = "<init>") then none else match code, st with
    | 2, .long z :: .ref a :: r => if tags.contains (M.1 a).1 then am_nx (pc + 3) ls r (M.1, M.2.1, am_u M.2.2.1 a k z, M.2.2.2) else none
    | 3, .ref z :: .ref a :: r => if tags.contains (M.1 a).1 ∧ (1 ≤ (M.1 z).1 ∧ (M.1 z).1 < 30) then am_nx (pc + 3) ls r (M.1, M.2.1, M.2.2.1, am_u M.2.2.2.1 a k (some z), M.2.2.2.2) else none
    | 3, .null :: .ref a :: r => if tags.contains (M.1 a).1 then am_nx (pc + 3) ls r (M.1, M.2.1, M.2.2.1, am_u M.2.2.2.1 a k none, M.2.2.2.2) else none
    | 1, .int z :: .ref a :: r => if tags.contains (M.1 a).1 ∧ (z = 0 ∨ z = 1) then am_nx (pc + 3) ls r (M.1, am_u M.2.1 a k z, M.2.2) else none
    | 0, .int z :: .ref a :: r => if tags.contains (M.1 a).1 then am_nx (pc + 3) ls r (M.1, am_u M.2.1 a k z, M.2.2) else none
    | _, _ => none
  | none => none
def am_sti (tag : Nat) (f : Int32 → Int32) (pc : Nat) (ls : am_Loc) (st : List Value) (M : am_Mem) : am_Out := match st with
  | .int z :: .int j :: .ref a :: r => if am_arr M.1 [tag] a j then am_nx (pc + 1) ls r (M.1, am_u M.2.1 a j.toNatClampNeg (f z), M.2.2) else none
  | _ => none
def am_bst (pc : Nat) (ls : am_Loc) (st : List Value) (M : am_Mem) : am_Out := match st with
  | .int z :: .int j :: .ref a :: r => if am_arr M.1 [22] a j then am_nx (pc + 1) ls r (M.1, am_u M.2.1 a j.toNatClampNeg z.toInt8.toInt32, M.2.2)
      else if am_arr M.1 [23] a j then am_nx (pc + 1) ls r (M.1, am_u M.2.1 a j.toNatClampNeg (z &&& 1), M.2.2) else none
  | _ => none
def am_ast (pc : Nat) (ls : am_Loc) (st : List Value) (M : am_Mem) : am_Out := match st with
  | .ref z :: .int j :: .ref a :: r => if (am_arr M.1 [24] a j && (M.1 z).1 == 11 || am_arr M.1 [25] a j && [1, 2, 3, 4, 5, 6, 10].contains (M.1 z).1) = true then am_nx (pc + 1) ls r (M.1, M.2.1, M.2.2.1, am_u M.2.2.2.1 a j.toNatClampNeg (some z), M.2.2.2.2) else none
  | .null :: .int j :: .ref a :: r => if am_arr M.1 [24, 25] a j then am_nx (pc + 1) ls r (M.1, M.2.1, M.2.2.1, am_u M.2.2.2.1 a j.toNatClampNeg none, M.2.2.2.2) else none
  | _ => none
/-- a new cell: its rows stand blank already -/
def am_new (tag len w : Nat) (M : am_Mem) : am_Mem := (am_tu M.1 M.2.2.2.2.1 (tag, len), M.2.1, M.2.2.1, M.2.2.2.1, M.2.2.2.2.1 + 1, M.2.2.2.2.2 + w)
def am_sum (st : List Value) : Nat := (st.map fun v => v.category).sum
def am_al : List Value → am_Loc
  | [] => []
  | v :: vs => if v.category = 2 then some v :: none :: am_al vs else some v :: am_al vs
def am_entry (y : Nat) (as : List Value) : am_Loc := am_al as ++ List.replicate (am_mx y - (am_al as).length) none
def am_call (y : Nat) (as rest : List Value) : am_Out := if (am_al as).length ≤ am_mx y ∧ am_sum rest ≤ 8 then some (.inr (.inr (y, as, rest))) else none
def am_iv (o x : Nat) (st : List Value) (M : am_Mem) : am_Out := match am_lk am_ivL o x with
  | some (n, rows) => match st.drop n with
    | .ref a :: rest => match rows.find? (fun q => q.1 == (M.1 a).1) with
      | some q => am_call q.2.1 (.ref a :: (st.take n).reverse) rest
      | none => none
    | _ => none
  | none => none
def am_is (o x : Nat) (st : List Value) : am_Out := match am_lk am_isL o x with
  | some (n, y, _) => if n ≤ st.length then am_call y (st.take n).reverse (st.drop n) else none
  | none => none
def am_acp (pc : Nat) (ls : am_Loc) (st : List Value) (M : am_Mem) : am_Out := match st with
  | .int n :: .int dp :: .ref a :: .int sp :: .ref c :: r =>
    if ((M.1 a).1 = (M.1 c).1 ∧ ((M.1 a).1 = 20 ∨ (M.1 a).1 = 22 ∧ ((List.range n.toNatClampNeg).all fun i => fits .byte (.int (M.2.1 c (sp.toNatClampNeg + i)))) = true)) ∧ (¬ sp < 0 ∧ ¬ dp < 0 ∧ ¬ n < 0) ∧ sp.toNatClampNeg + n.toNatClampNeg ≤ (M.1 c).2 ∧ dp.toNatClampNeg + n.toNatClampNeg ≤ (M.1 a).2 ∧ am_sum r ≤ 8
    then am_nx (pc + 3) ls r (M.1, am_cpy M.2.1 c sp.toNatClampNeg a dp.toNatClampNeg n.toNatClampNeg, M.2.2) else none
  | _ => none
def am_ip (d o x pc : Nat) (ls : am_Loc) (st : List Value) (M : am_Mem) : am_Out := match am_lk am_oiL o x with
  | some _ => match st with
    | .ref a :: r => if 0 < d ∧ am_sum r ≤ 8 ∧ (1 ≤ (M.1 a).1 ∧ (M.1 a).1 < 30) then am_nx (pc + 3) ls r M else none
    | _ => none
  | none => match am_lk am_ipL o x with
    | some (n, y, _, tags, _) => match st.drop n with
      | .ref a :: rest => if tags.contains (M.1 a).1 = true then am_call y (.ref a :: (st.take n).reverse) rest else none
      | _ => none
    | none => none
/-- one instruction of method y, d calls still free -/
def am_ex (d y : Nat) (i : Instr) (pc : Nat) (ls : am_Loc) (st : List Value) (M : am_Mem) : am_Out := match i with
  | .aconst_null => am_nx (pc + 1) ls (.null :: st) M
  | .iconst n => am_nx (pc + 1) ls (.int (Int32.ofInt n) :: st) M
  | .bipush n => am_nx (pc + 2) ls (.int (Int8.ofInt n).toInt32 :: st) M
  | .sipush n => am_nx (pc + 3) ls (.int (Int16.ofInt n).toInt32 :: st) M
  | .lconst n => am_nx (pc + 1) ls (.long (Int64.ofNat (n : Nat)) :: st) M
  | .ldc x => match am_lk am_ldcL (am_ow y) x with | some (v, _) => am_nx (pc + 2) ls (v :: st) M | none => none
  | .ldc_w x => match am_lk am_ldwL (am_ow y) x with | some (v, _) => am_nx (pc + 3) ls (.int v :: st) M | none => none
  | .ldc2_w x => match am_lk am_ld2L (am_ow y) x with | some (v, _) => am_nx (pc + 3) ls (.long v :: st) M | none => none
  | .iload k => am_li ls k (pc + 2) st M
  | .iload_n k => am_li ls k (pc + 1) st M
  | .lload k => am_ll ls k (pc + 2) st M
  | .lload_n k => am_ll ls k (pc + 1) st M
  | .aload k => am_la ls k (pc + 2) st M
  | .aload_n k => am_la ls k (pc + 1) st M
  | .istore k => am_si (am_mx y) ls k (pc + 2) st M
  | .istore_n k => am_si (am_mx y) ls k (pc + 1) st M
  | .lstore k => am_sl (am_mx y) ls k (pc + 2) st M
  | .lstore_n k => am_sl (am_mx y) ls k (pc + 1) st M
  | .astore k => am_sa (am_mx y) ls k (pc + 2) st M
  | .astore_n k => am_sa (am_mx y) ls k (pc + 1) st M
  | .iinc k n => match am_ld ls k with
    | some (.int x) => if k < am_mx y then am_nx (pc + 3) (am_s1 ls k (.int (x + Int32.ofInt n))) st M else none
    | _ => none
  | .iadd => am_i2 (fun x y => x + y) pc ls st M
  | .isub => am_i2 (fun x y => x - y) pc ls st M
  | .imul => am_i2 (fun x y => x * y) pc ls st M
  | .iand => am_i2 (fun x y => x &&& y) pc ls st M
  | .ior => am_i2 (fun x y => x ||| y) pc ls st M
  | .ixor => am_i2 (fun x y => x ^^^ y) pc ls st M
  | .ishl => am_i2 (fun x y => x <<< (y &&& 31)) pc ls st M
  | .ishr => am_i2 (fun x y => x >>> (y &&& 31)) pc ls st M
  | .iushr => am_i2 (fun x y => (x.toUInt32 >>> (y.toUInt32 &&& Int32.toUInt32 31)).toInt32) pc ls st M
  | .idiv => match st with | .int y :: .int x :: r => if y = 0 then none else am_nx (pc + 1) ls (.int (x / y) :: r) M | _ => none
  | .irem => match st with | .int y :: .int x :: r => if y = 0 then none else am_nx (pc + 1) ls (.int (x - x / y * y) :: r) M | _ => none
  | .ineg => am_i1 (fun x => -x) pc ls st M
  | .i2b => am_i1 (fun x => x.toInt8.toInt32) pc ls st M
  | .i2c => am_i1 (fun x => (x.toUInt32 % 65536).toInt32) pc ls st M
  | .i2l => match st with | .int x :: r => am_nx (pc + 1) ls (.long x.toInt64 :: r) M | _ => none
  | .l2i => match st with | .long x :: r => am_nx (pc + 1) ls (.int x.toInt32 :: r) M | _ => none
  | .ladd => am_l2 (fun x y => x + y) pc ls st M
  | .lsub => am_l2 (fun x y => x - y) pc ls st M
  | .lmul => am_l2 (fun x y => x * y) pc ls st M
  | .land => am_l2 (fun x y => x &&& y) pc ls st M
  | .lor => am_l2 (fun x y => x ||| y) pc ls st M
  | .lneg => match st with | .long x :: r => am_nx (pc + 1) ls (.long (-x) :: r) M | _ => none
  | .ldiv => match st with | .long y :: .long x :: r => if y = 0 then none else am_nx (pc + 1) ls (.long (x / y) :: r) M | _ => none
  | .lrem => match st with | .long y :: .long x :: r => if y = 0 then none else am_nx (pc + 1) ls (.long (x - x / y * y) :: r) M | _ => none
  | .lshl => match st with | .int y :: .long x :: r => am_nx (pc + 1) ls (.long (x <<< (y.toInt64 &&& 63)) :: r) M | _ => none
  | .lshr => match st with | .int y :: .long x :: r => am_nx (pc + 1) ls (.long (x >>> (y.toInt64 &&& 63)) :: r) M | _ => none
  | .lushr => match st with | .int y :: .long x :: r => am_nx (pc + 1) ls (.long ((x.toUInt64 >>> (y.toInt64.toUInt64 &&& Int64.toUInt64 63)).toInt64) :: r) M | _ => none
  | .lcmp => match st with | .long y :: .long x :: r => am_nx (pc + 1) ls (.int (lg_cmp x y) :: r) M | _ => none
  | .dup => match st with | v :: r => if v.category = 1 then am_nx (pc + 1) ls (v :: v :: r) M else none | _ => none
  | .pop => match st with | v :: r => if v.category = 1 then am_nx (pc + 1) ls r M else none | _ => none
  | .dup2 => match st with
    | v :: w :: r => if v.category = 1 ∧ w.category = 1 then am_nx (pc + 1) ls (v :: w :: v :: w :: r) M else if v.category = 2 then am_nx (pc + 1) ls (v :: v :: w :: r) M else none
    | [v] => if v.category = 2 then am_nx (pc + 1) ls [v, v] M else none
    | _ => none
  | .ifCond c off => match st with | .int x :: r => if 0 ≤ (pc : Int) + off then (if am_cc c x 0 = true then am_nx ((pc : Int) + off).toNat ls r M else am_nx (pc + 3) ls r M) else none | _ => none
  | .if_icmp c off => match st with | .int y :: .int x :: r => if 0 ≤ (pc : Int) + off then (if am_cc c x y = true then am_nx ((pc : Int) + off).toNat ls r M else am_nx (pc + 3) ls r M) else none | _ => none
  | .ifnull off => match st with
    | .ref a :: r => if ¬ (M.1 a).1 = 0 then am_nx (pc + 3) ls r M else none
    | .null :: r => am_br pc off ls r M
    | _ => none
  | .ifnonnull off => match st with
    | .ref a :: r => if ¬ (M.1 a).1 = 0 then am_br pc off ls r M else none
    | .null :: r => am_nx (pc + 3) ls r M
    | _ => none
  | .goto off => am_br pc off ls st M
  | .tableswitch df lo hi offs => match st with
    | .int x :: r => if x.toInt < lo ∨ hi < x.toInt then am_br pc df ls r M else match offs[(x.toInt - lo).toNat]? with
      | some off => am_br pc off ls r M
      | none => none
    | _ => none
  | .lookupswitch df ps => match st with
    | .int x :: r => if (ps.toList.zip (ps.toList.drop 1)).all (fun (a, next) => a.1 < next.1) = true then am_br pc (Op.lookupswitch.offset ps.toList df x.toInt) ls r M else none
    | _ => none
  | .getfield x => am_get (am_ow y) x pc ls st M
  | .putfield x => am_put y (am_ow y) x pc ls st M
  | .getstatic x => match am_lk am_gstL (am_ow y) x with
    | some (0, _) => am_nx (pc + 3) ls (.int 1 :: st) M
    | some (_ + 1, _) => am_nx (pc + 3) ls (.ref 50 :: st) M
    | none => none
  | .iaload => match st with | .int j :: .ref a :: r => if am_arr M.1 [20, 30] a j then am_nx (pc + 1) ls (.int (M.2.1 a j.toNatClampNeg) :: r) M else none | _ => none
  | .baload => match st with | .int j :: .ref a :: r => if am_arr M.1 [22, 23, 32] a j then am_nx (pc + 1) ls (.int (M.2.1 a j.toNatClampNeg) :: r) M else none | _ => none
  | .laload => match st with | .int j :: .ref a :: r => if am_arr M.1 [21] a j then am_nx (pc + 1) ls (.long (M.2.2.1 a j.toNatClampNeg) :: r) M else none | _ => none
  | .aaload => match st with | .int j :: .ref a :: r => if am_arr M.1 [24, 25] a j then am_nx (pc + 1) ls (am_v (M.2.2.2.1 a j.toNatClampNeg) :: r) M else none | _ => none
  | .iastore => am_sti 20 (fun z => z) pc ls st M
  | .bastore => am_bst pc ls st M
  | .lastore => match st with | .long z :: .int j :: .ref a :: r => if am_arr M.1 [21] a j then am_nx (pc + 1) ls r (M.1, M.2.1, am_u M.2.2.1 a j.toNatClampNeg z, M.2.2.2) else none | _ => none
  | .aastore => am_ast pc ls st M
  | .arraylength => match st with | .ref a :: r => if [20, 21, 22, 23, 24, 25, 30, 32].contains (M.1 a).1 then am_nx (pc + 1) ls (.int (Int32.ofNat (M.1 a).2) :: r) M else none | _ => none
  | .newarray t => match st with
    | .int n :: r => if n < 0 ∨ 67108864 < n.toNatClampNeg then none else match t with
      | .int => am_nx (pc + 2) ls (.ref M.2.2.2.2.1 :: r) (am_new 20 n.toNatClampNeg n.toNatClampNeg M)
      | .long => am_nx (pc + 2) ls (.ref M.2.2.2.2.1 :: r) (am_new 21 n.toNatClampNeg n.toNatClampNeg M)
      | .byte => am_nx (pc + 2) ls (.ref M.2.2.2.2.1 :: r) (am_new 22 n.toNatClampNeg n.toNatClampNeg M)
      | .boolean => am_nx (pc + 2) ls (.ref M.2.2.2.2.1 :: r) (am_new 23 n.toNatClampNeg n.toNatClampNeg M)
      | _ => none
    | _ => none
  | .anewarray x => match am_lk am_anewL (am_ow y) x, st with
    | some (tag, _), .int n :: r => if n < 0 ∨ 67108864 < n.toNatClampNeg then none else am_nx (pc + 3) ls (.ref M.2.2.2.2.1 :: r) (am_new tag n.toNatClampNeg n.toNatClampNeg M)
    | _, _ => none
  | .new x => match am_lk am_newL (am_ow y) x with
    | some (tag, n, _) => am_nx (pc + 3) ls (.ref M.2.2.2.2.1 :: st) (am_new tag 0 n M)
    | none => none
  | .instanceof x => match am_lk am_instL (am_ow y) x, st with
    | some (ys, ns, _), .ref a :: r => if ys.contains (M.1 a).1 then am_nx (pc + 3) ls (.int 1 :: r) M else if ns.contains (M.1 a).1 then am_nx (pc + 3) ls (.int 0 :: r) M else none
    | some _, .null :: r => am_nx (pc + 3) ls (.int 0 :: r) M
    | _, _ => none
  | .invokevirtual x => am_iv (am_ow y) x st M
  | .invokestatic x => match am_lk am_acL (am_ow y) x with
    | some _ => if 0 < d then am_acp pc ls st M else none
    | none => am_is (am_ow y) x st
  | .invokespecial x => am_ip d (am_ow y) x pc ls st M
  | .ireturn => match am_rt y, st with
    | some ty, [.int x] => if narrow ty (.int x) = .int x then some (.inr (.inl (some (.int x), M))) else none
    | _, _ => none
  | .lreturn => match am_rt y, st with
    | some .long, [.long x] => some (.inr (.inl (some (.long x), M)))
    | _, _ => none
  | .areturn => match am_rt y, st with
    | some (.object _), [.ref a] => if ¬ (M.1 a).1 = 0 then some (.inr (.inl (some (.ref a), M))) else none
    | some (.object _), [.null] => some (.inr (.inl (some .null, M)))
    | _, _ => none
  | .return_ => match am_rt y, st with
    | none, [] => some (.inr (.inl (none, M)))
    | _, _ => none
  | _ => none
/-- how long an instruction is; 0: any -/
def am_len (i : Instr) : Nat := match i with
  | .bipush _ | .iload _ | .lload _ | .aload _ | .istore _ | .lstore _ | .astore _ | .ldc _ | .newarray _ => 2
  | .sipush _ | .ldc_w _ | .ldc2_w _ | .iinc _ _ | .ifCond _ _ | .if_icmp _ _ | .ifnull _ | .ifnonnull _ | .goto _ | .getfield _ | .putfield _ | .getstatic _ | .anewarray _ | .new _ | .instanceof _ | .invokevirtual _ | .invokestatic _ | .invokespecial _ => 3
  | .tableswitch _ _ _ _ | .lookupswitch _ _ => 0
  | _ => 1
/-- n instructions at most, d calls deep at most: the answer and the memory behind it -/
def am_run : Nat → Nat → Nat → Nat → am_Loc → List Value → am_Mem → Option (Option Value × am_Mem)
  | 0, _, _, _, _, _, _ => none
  | n + 1, d, y, pc, ls, st, M => match decode (am_bc y) pc with
    | .error _ => none
    | .ok (i, len) => if am_len i = len ∨ am_len i = 0 then (match am_ex d y i pc ls st M with
      | none => none
      | some (.inl (pc', ls', st', M')) => am_run n d y pc' ls' st' M'
      | some (.inr (.inl r)) => some r
      | some (.inr (.inr (c, as, rest))) => match d with
        | 0 => none
        | d' + 1 => match am_run n d' c 0 (am_entry c as) [] M with
          | none => none
          | some (v, M') => am_run n (d' + 1) y (pc + 3) ls (v.toList ++ rest) M') else none
