/-! methods and links, by number -/
theorem m0 : am_m 0 = (yX0_init, cX0_init, 6, none, 0, 537) := rfl
theorem mx0 : am_mx 0 = 6 := by unfold am_mx; rw [m0]
theorem m1 : am_m 1 = (yX0_wants, cX0_wants, 4, some FieldType.boolean, 0, 668) := rfl
theorem mx1 : am_mx 1 = 4 := by unfold am_mx; rw [m1]
theorem m2 : am_m 2 = (yX0_takes, cX0_takes, 3, some FieldType.int, 0, 861) := rfl
theorem mx2 : am_mx 2 = 3 := by unfold am_mx; rw [m2]
theorem m3 : am_m 3 = (yX1_init, cX1_init, 6, none, 1, 605) := rfl
theorem mx3 : am_mx 3 = 6 := by unfold am_mx; rw [m3]
theorem m4 : am_m 4 = (yX1_wants, cX1_wants, 4, some FieldType.boolean, 1, 672) := rfl
theorem mx4 : am_mx 4 = 4 := by unfold am_mx; rw [m4]
theorem m5 : am_m 5 = (yX1_tells, cX1_tells, 4, some FieldType.int, 1, 907) := rfl
theorem mx5 : am_mx 5 = 4 := by unfold am_mx; rw [m5]
theorem m6 : am_m 6 = (yX2_init, cX2_init, 6, none, 2, 581) := rfl
theorem mx6 : am_mx 6 = 6 := by unfold am_mx; rw [m6]
theorem m7 : am_m 7 = (yX2_wants, cX2_wants, 6, some FieldType.boolean, 2, 675) := rfl
theorem mx7 : am_mx 7 = 6 := by unfold am_mx; rw [m7]
theorem m8 : am_m 8 = (yX2_walks, cX2_walks, 3, some FieldType.int, 2, 888) := rfl
theorem mx8 : am_mx 8 = 3 := by unfold am_mx; rw [m8]
theorem m9 : am_m 9 = (yX3_init, cX3_init, 6, none, 3, 629) := rfl
theorem mx9 : am_mx 9 = 6 := by unfold am_mx; rw [m9]
theorem m10 : am_m 10 = (yX3_wants, cX3_wants, 5, some FieldType.boolean, 3, 686) := rfl
theorem mx10 : am_mx 10 = 5 := by unfold am_mx; rw [m10]
theorem m11 : am_m 11 = (yX3_walks, cX3_walks, 3, some FieldType.int, 3, 893) := rfl
theorem mx11 : am_mx 11 = 3 := by unfold am_mx; rw [m11]
theorem m12 : am_m 12 = (yX4_init, cX4_init, 6, none, 4, 593) := rfl
theorem mx12 : am_mx 12 = 6 := by unfold am_mx; rw [m12]
theorem m13 : am_m 13 = (yX4_wants, cX4_wants, 4, some FieldType.boolean, 4, 690) := rfl
theorem mx13 : am_mx 13 = 4 := by unfold am_mx; rw [m13]
theorem m14 : am_m 14 = (yX4_tells, cX4_tells, 3, some FieldType.int, 4, 920) := rfl
theorem mx14 : am_mx 14 = 3 := by unfold am_mx; rw [m14]
theorem m15 : am_m 15 = (yX5_init, cX5_init, 6, none, 5, 617) := rfl
theorem mx15 : am_mx 15 = 6 := by unfold am_mx; rw [m15]
theorem m16 : am_m 16 = (yX5_shares, cX5_shares, 1, some FieldType.boolean, 5, 725) := rfl
theorem mx16 : am_mx 16 = 1 := by unfold am_mx; rw [m16]
theorem m17 : am_m 17 = (yX5_takes, cX5_takes, 3, some FieldType.int, 5, 873) := rfl
theorem mx17 : am_mx 17 = 3 := by unfold am_mx; rw [m17]
theorem m18 : am_m 18 = (yX6_init, cX6_init, 1, none, 6, 99) := rfl
theorem mx18 : am_mx 18 = 1 := by unfold am_mx; rw [m18]
theorem m19 : am_m 19 = (yX6_copyFrom, cX6_copyFrom, 3, none, 6, 944) := rfl
theorem mx19 : am_mx 19 = 3 := by unfold am_mx; rw [m19]
theorem m20 : am_m 20 = (yX6_vanishedAt, cX6_vanishedAt, 4, some FieldType.int, 6, 849) := rfl
theorem mx20 : am_mx 20 = 4 := by unfold am_mx; rw [m20]
theorem m21 : am_m 21 = (yX7_init, cX7_init, 1, none, 7, 155) := rfl
theorem mx21 : am_mx 21 = 1 := by unfold am_mx; rw [m21]
theorem m22 : am_m 22 = (yX7_rainOf, cX7_rainOf, 3, some FieldType.int, 7, 525) := rfl
theorem mx22 : am_mx 22 = 3 := by unfold am_mx; rw [m22]
theorem m23 : am_m 23 = (yX7_loses, cX7_loses, 8, some FieldType.boolean, 7, 713) := rfl
theorem mx23 : am_mx 23 = 8 := by unfold am_mx; rw [m23]
theorem m24 : am_m 24 = (yX7_layFacts, cX7_layFacts, 6, none, 7, 504) := rfl
theorem mx24 : am_mx 24 = 6 := by unfold am_mx; rw [m24]
theorem m25 : am_m 25 = (yX7_holds, cX7_holds, 7, some FieldType.boolean, 7, 508) := rfl
theorem mx25 : am_mx 25 = 7 := by unfold am_mx; rw [m25]
theorem m26 : am_m 26 = (yX7_testHolds, cX7_testHolds, 4, some FieldType.boolean, 7, 512) := rfl
theorem mx26 : am_mx 26 = 4 := by unfold am_mx; rw [m26]
theorem m27 : am_m 27 = (yX7_readFrom, cX7_readFrom, 4, some FieldType.int, 7, 330) := rfl
theorem mx27 : am_mx 27 = 4 := by unfold am_mx; rw [m27]
theorem m28 : am_m 28 = (yX7_readClause, cX7_readClause, 4, some FieldType.boolean, 7, 334) := rfl
theorem mx28 : am_mx 28 = 4 := by unfold am_mx; rw [m28]
theorem m29 : am_m 29 = (yX7_keepClause, cX7_keepClause, 4, none, 7, 496) := rfl
theorem mx29 : am_mx 29 = 4 := by unfold am_mx; rw [m29]
theorem m30 : am_m 30 = (yX7_addRain, cX7_addRain, 4, none, 7, 500) := rfl
theorem mx30 : am_mx 30 = 4 := by unfold am_mx; rw [m30]
theorem m31 : am_m 31 = (yX7_addLost, cX7_addLost, 3, none, 7, 517) := rfl
theorem mx31 : am_mx 31 = 3 := by unfold am_mx; rw [m31]
theorem m32 : am_m 32 = (yX7_readWord, cX7_readWord, 5, some FieldType.int, 7, 338) := rfl
theorem mx32 : am_mx 32 = 5 := by unfold am_mx; rw [m32]
theorem m33 : am_m 33 = (yX7_wordOf, cX7_wordOf, 1, some (FieldType.object "java/lang/String"), 7, 341) := rfl
theorem mx33 : am_mx 33 = 1 := by unfold am_mx; rw [m33]
theorem m34 : am_m 34 = (yX7_alikeWith, cX7_alikeWith, 3, some FieldType.int, 7, 350) := rfl
theorem mx34 : am_mx 34 = 3 := by unfold am_mx; rw [m34]
theorem m35 : am_m 35 = (yX7_readNumber, cX7_readNumber, 3, some FieldType.int, 7, 413) := rfl
theorem mx35 : am_mx 35 = 3 := by unfold am_mx; rw [m35]
theorem m36 : am_m 36 = (yX7_readEither, cX7_readEither, 3, some FieldType.boolean, 7, 417) := rfl
theorem mx36 : am_mx 36 = 3 := by unfold am_mx; rw [m36]
theorem m37 : am_m 37 = (yX7_readBoth, cX7_readBoth, 3, some FieldType.boolean, 7, 421) := rfl
theorem mx37 : am_mx 37 = 3 := by unfold am_mx; rw [m37]
theorem m38 : am_m 38 = (yX7_readSingle, cX7_readSingle, 2, some FieldType.boolean, 7, 425) := rfl
theorem mx38 : am_mx 38 = 2 := by unfold am_mx; rw [m38]
theorem m39 : am_m 39 = (yX7_readTest, cX7_readTest, 4, some FieldType.boolean, 7, 433) := rfl
theorem mx39 : am_mx 39 = 4 := by unfold am_mx; rw [m39]
theorem m40 : am_m 40 = (yX7_skip, cX7_skip, 2, some FieldType.boolean, 7, 409) := rfl
theorem mx40 : am_mx 40 = 2 := by unfold am_mx; rw [m40]
theorem m41 : am_m 41 = (yX7_byteAt, cX7_byteAt, 2, some FieldType.int, 7, 364) := rfl
theorem mx41 : am_mx 41 = 2 := by unfold am_mx; rw [m41]
theorem m42 : am_m 42 = (yX7_put, cX7_put, 2, some FieldType.boolean, 7, 429) := rfl
theorem mx42 : am_mx 42 = 2 := by unfold am_mx; rw [m42]
theorem m43 : am_m 43 = (yX8_init, cX8_init, 1, none, 8, 267) := rfl
theorem mx43 : am_mx 43 = 1 := by unfold am_mx; rw [m43]
theorem m44 : am_m 44 = (yX8_began, cX8_began, 2, none, 8, 865) := rfl
theorem mx44 : am_mx 44 = 2 := by unfold am_mx; rw [m44]
theorem m45 : am_m 45 = (yX9_init, cX9_init, 6, none, 9, 540) := rfl
theorem mx45 : am_mx 45 = 6 := by unfold am_mx; rw [m45]
theorem m46 : am_m 46 = (yX9_otherDoor, cX9_otherDoor, 2, some FieldType.int, 9, 683) := rfl
theorem mx46 : am_mx 46 = 2 := by unfold am_mx; rw [m46]
theorem m47 : am_m 47 = (yX9_wants, cX9_wants, 4, some FieldType.boolean, 9, 692) := rfl
theorem mx47 : am_mx 47 = 4 := by unfold am_mx; rw [m47]
theorem m48 : am_m 48 = (yX9_shares, cX9_shares, 1, some FieldType.boolean, 9, 726) := rfl
theorem mx48 : am_mx 48 = 1 := by unfold am_mx; rw [m48]
theorem m49 : am_m 49 = (yX9_takes, cX9_takes, 3, some FieldType.int, 9, 878) := rfl
theorem mx49 : am_mx 49 = 3 := by unfold am_mx; rw [m49]
theorem m50 : am_m 50 = (yX9_walks, cX9_walks, 3, some FieldType.int, 9, 898) := rfl
theorem mx50 : am_mx 50 = 3 := by unfold am_mx; rw [m50]
theorem m51 : am_m 51 = (yX9_tells, cX9_tells, 3, some FieldType.int, 9, 924) := rfl
theorem mx51 : am_mx 51 = 3 := by unfold am_mx; rw [m51]
theorem m52 : am_m 52 = (yX10_init, cX10_init, 1, none, 10, 105) := rfl
theorem mx52 : am_mx 52 = 1 := by unfold am_mx; rw [m52]
theorem m53 : am_m 53 = (yX10_copyFrom, cX10_copyFrom, 3, none, 10, 747) := rfl
theorem mx53 : am_mx 53 = 3 := by unfold am_mx; rw [m53]
theorem m54 : am_m 54 = (yX10_forgetTallies, cX10_forgetTallies, 1, none, 10, 700) := rfl
theorem mx54 : am_mx 54 = 1 := by unfold am_mx; rw [m54]
theorem m55 : am_m 55 = (yX10_layStands, cX10_layStands, 5, none, 10, 784) := rfl
theorem mx55 : am_mx 55 = 5 := by unfold am_mx; rw [m55]
theorem m56 : am_m 56 = (yX10_standingInAll, cX10_standingInAll, 1, some FieldType.int, 10, 793) := rfl
theorem mx56 : am_mx 56 = 1 := by unfold am_mx; rw [m56]
theorem m57 : am_m 57 = (yX10_wouldTake, cX10_wouldTake, 4, some FieldType.boolean, 10, 661) := rfl
theorem mx57 : am_mx 57 = 4 := by unfold am_mx; rw [m57]
theorem m58 : am_m 58 = (yX10_pass, cX10_pass, 6, none, 10, 704) := rfl
theorem mx58 : am_mx 58 = 6 := by unfold am_mx; rw [m58]
theorem m59 : am_m 59 = (yX10_walk, cX10_walk, 7, none, 10, 708) := rfl
theorem mx59 : am_mx 59 = 7 := by unfold am_mx; rw [m59]
theorem m60 : am_m 60 = (yX10_putDown, cX10_putDown, 3, none, 10, 730) := rfl
theorem mx60 : am_mx 60 = 3 := by unfold am_mx; rw [m60]
theorem m61 : am_m 61 = (yX10_moveCart, cX10_moveCart, 6, some FieldType.int, 10, 820) := rfl
theorem mx61 : am_mx 61 = 6 := by unfold am_mx; rw [m61]
theorem m62 : am_m 62 = (yX11_init, cX11_init, 2, none, 11, 91) := rfl
theorem mx62 : am_mx 62 = 2 := by unfold am_mx; rw [m62]
theorem m63 : am_m 63 = (yX11_stand, cX11_stand, 4, some FieldType.int, 11, 313) := rfl
theorem mx63 : am_mx 63 = 4 := by unfold am_mx; rw [m63]
theorem m64 : am_m 64 = (yX11_feed, cX11_feed, 5, some FieldType.int, 11, 320) := rfl
theorem mx64 : am_mx 64 = 5 := by unfold am_mx; rw [m64]
theorem m65 : am_m 65 = (yX11_town, cX11_town, 3, some FieldType.int, 11, 324) := rfl
theorem mx65 : am_mx 65 = 3 := by unfold am_mx; rw [m65]
theorem m66 : am_m 66 = (yX11_told, cX11_told, 2, some FieldType.int, 11, 521) := rfl
theorem mx66 : am_mx 66 = 2 := by unfold am_mx; rw [m66]
theorem m67 : am_m 67 = (yX11_person, cX11_person, 7, some FieldType.int, 11, 529) := rfl
theorem mx67 : am_mx 67 = 7 := by unfold am_mx; rw [m67]
theorem m68 : am_m 68 = (yX11_step, cX11_step, 4, some FieldType.int, 11, 649) := rfl
theorem mx68 : am_mx 68 = 4 := by unfold am_mx; rw [m68]
theorem m69 : am_m 69 = (yX11_of, cX11_of, 4, some FieldType.int, 11, 657) := rfl
theorem mx69 : am_mx 69 = 4 := by unfold am_mx; rw [m69]
theorem m70 : am_m 70 = (yX11_go, cX11_go, 2, some FieldType.int, 11, 696) := rfl
theorem mx70 : am_mx 70 = 2 := by unfold am_mx; rw [m70]
theorem m71 : am_m 71 = (yX11_row, cX11_row, 2, some FieldType.int, 11, 735) := rfl
theorem mx71 : am_mx 71 = 2 := by unfold am_mx; rw [m71]
theorem m72 : am_m 72 = (yX11_hand, cX11_hand, 5, some FieldType.int, 11, 739) := rfl
theorem mx72 : am_mx 72 = 5 := by unfold am_mx; rw [m72]
theorem m73 : am_m 73 = (yX11_mean, cX11_mean, 4, some FieldType.long, 11, 751) := rfl
theorem mx73 : am_mx 73 = 4 := by unfold am_mx; rw [m73]
theorem m74 : am_m 74 = (yX11_least, cX11_least, 6, some FieldType.int, 11, 780) := rfl
theorem mx74 : am_mx 74 = 6 := by unfold am_mx; rw [m74]
theorem m75 : am_m 75 = (yX11_start, cX11_start, 4, some FieldType.int, 11, 789) := rfl
theorem mx75 : am_mx 75 = 4 := by unfold am_mx; rw [m75]
theorem m76 : am_m 76 = (yX11_rule, cX11_rule, 9, some FieldType.int, 11, 804) := rfl
theorem mx76 : am_mx 76 = 9 := by unfold am_mx; rw [m76]
theorem m77 : am_m 77 = (yX11_gather, cX11_gather, 4, some FieldType.int, 11, 808) := rfl
theorem mx77 : am_mx 77 = 4 := by unfold am_mx; rw [m77]
theorem m78 : am_m 78 = (yX11_penny, cX11_penny, 7, some FieldType.long, 11, 812) := rfl
theorem mx78 : am_mx 78 = 7 := by unfold am_mx; rw [m78]
theorem m79 : am_m 79 = (yX11_cart, cX11_cart, 1, some FieldType.int, 11, 816) := rfl
theorem mx79 : am_mx 79 = 1 := by unfold am_mx; rw [m79]
theorem m80 : am_m 80 = (yX11_needed, cX11_needed, 1, some FieldType.int, 11, 824) := rfl
theorem mx80 : am_mx 80 = 1 := by unfold am_mx; rw [m80]
theorem m81 : am_m 81 = (yX11_book, cX11_book, 3, some FieldType.int, 11, 841) := rfl
theorem mx81 : am_mx 81 = 3 := by unfold am_mx; rw [m81]
theorem m82 : am_m 82 = (yX11_vanish, cX11_vanish, 8, some FieldType.int, 11, 845) := rfl
theorem mx82 : am_mx 82 = 8 := by unfold am_mx; rw [m82]
theorem m83 : am_m 83 = (yX11_act, cX11_act, 5, some FieldType.int, 11, 854) := rfl
theorem mx83 : am_mx 83 = 5 := by unfold am_mx; rw [m83]
theorem m84 : am_m 84 = (yX11_trace, cX11_trace, 2, some FieldType.int, 11, 929) := rfl
theorem mx84 : am_mx 84 = 2 := by unfold am_mx; rw [m84]
theorem m85 : am_m 85 = (yX11_as, cX11_as, 4, some FieldType.int, 11, 933) := rfl
theorem mx85 : am_mx 85 = 4 := by unfold am_mx; rw [m85]
theorem m86 : am_m 86 = (yX11_image, cX11_image, 1, some FieldType.int, 11, 940) := rfl
theorem mx86 : am_mx 86 = 1 := by unfold am_mx; rw [m86]
theorem m87 : am_m 87 = (yX11_undo, cX11_undo, 1, some FieldType.int, 11, 952) := rfl
theorem mx87 : am_mx 87 = 1 := by unfold am_mx; rw [m87]
theorem m88 : am_m 88 = (yX11_count, cX11_count, 2, some FieldType.int, 11, 956) := rfl
theorem mx88 : am_mx 88 = 2 := by unfold am_mx; rw [m88]
theorem m89 : am_m 89 = (yX11_isDoor, cX11_isDoor, 1, some FieldType.boolean, 11, 316) := rfl
theorem mx89 : am_mx 89 = 1 := by unfold am_mx; rw [m89]
theorem m90 : am_m 90 = (yX11_personAt, cX11_personAt, 2, some (FieldType.object "UmbrellaDoors$Walker"), 11, 653) := rfl
theorem mx90 : am_mx 90 = 2 := by unfold am_mx; rw [m90]
theorem m91 : am_m 91 = (yX11_oneOf, cX11_oneOf, 5, some (FieldType.object "UmbrellaDoors$Walker"), 11, 532) := rfl
theorem mx91 : am_mx 91 = 5 := by unfold am_mx; rw [m91]
theorem m92 : am_m 92 = (yX11_isOfKind, cX11_isOfKind, 2, some FieldType.boolean, 11, 936) := rfl
theorem mx92 : am_mx 92 = 2 := by unfold am_mx; rw [m92]
theorem m93 : am_m 93 = (yX11_beginThought, cX11_beginThought, 2, some (FieldType.object "UmbrellaDoors$World"), 11, 743) := rfl
theorem mx93 : am_mx 93 = 2 := by unfold am_mx; rw [m93]
theorem m94 : am_m 94 = (yX11_weigh, cX11_weigh, 10, none, 11, 756) := rfl
theorem mx94 : am_mx 94 = 10 := by unfold am_mx; rw [m94]
theorem m95 : am_m 95 = (yX11_addWeighed, cX11_addWeighed, 5, none, 11, 760) := rfl
theorem mx95 : am_mx 95 = 5 := by unfold am_mx; rw [m95]
theorem m96 : am_m 96 = (yX11_bestStart, cX11_bestStart, 10, some FieldType.int, 11, 797) := rfl
theorem mx96 : am_mx 96 = 10 := by unfold am_mx; rw [m96]
theorem m97 : am_m 97 = (yX11_standIn, cX11_standIn, 2, some FieldType.int, 11, 800) := rfl
theorem mx97 : am_mx 97 = 2 := by unfold am_mx; rw [m97]
theorem m98 : am_m 98 = (yX11_seekCarts, cX11_seekCarts, 5, none, 11, 828) := rfl
theorem mx98 : am_mx 98 = 5 := by unfold am_mx; rw [m98]
theorem m99 : am_m 99 = (yX11_comesFirst, cX11_comesFirst, 3, some FieldType.boolean, 11, 837) := rfl
theorem mx99 : am_mx 99 = 3 := by unfold am_mx; rw [m99]
theorem m100 : am_m 100 = (yX11_tenTo, cX11_tenTo, 4, some FieldType.long, 11, 763) := rfl
theorem mx100 : am_mx 100 = 4 := by unfold am_mx; rw [m100]
theorem m101 : am_m 101 = (yX11_fractionPart, cX11_fractionPart, 7, some FieldType.long, 11, 767) := rfl
theorem mx101 : am_mx 101 = 7 := by unfold am_mx; rw [m101]
theorem m102 : am_m 102 = (yX11_commonDivisor, cX11_commonDivisor, 7, some FieldType.long, 11, 773) := rfl
theorem mx102 : am_mx 102 = 7 := by unfold am_mx; rw [m102]
theorem m103 : am_m 103 = (yX12_init, cX12_init, 2, none, 12, 961) := rfl
theorem mx103 : am_mx 103 = 2 := by unfold am_mx; rw [m103]
theorem m104 : am_m 104 = (yX12_in, cX12_in, 3, some FieldType.boolean, 12, 1051) := rfl
theorem mx104 : am_mx 104 = 3 := by unfold am_mx; rw [m104]
theorem m105 : am_m 105 = (yX12_isDoor, cX12_isDoor, 1, some FieldType.boolean, 12, 1048) := rfl
theorem mx105 : am_mx 105 = 1 := by unfold am_mx; rw [m105]
theorem m106 : am_m 106 = (yX12_isPerson, cX12_isPerson, 2, some FieldType.boolean, 12, 1150) := rfl
theorem mx106 : am_mx 106 = 2 := by unfold am_mx; rw [m106]
theorem m107 : am_m 107 = (yX12_umbrellas, cX12_umbrellas, 1, some FieldType.int, 12, 1246) := rfl
theorem mx107 : am_mx 107 = 1 := by unfold am_mx; rw [m107]
theorem m108 : am_m 108 = (yX12_keeps, cX12_keeps, 3, none, 12, 1198) := rfl
theorem mx108 : am_mx 108 = 3 := by unfold am_mx; rw [m108]
theorem m109 : am_m 109 = (yX12_goesBackTo, cX12_goesBackTo, 3, none, 12, 1202) := rfl
theorem mx109 : am_mx 109 = 3 := by unfold am_mx; rw [m109]
theorem m110 : am_m 110 = (yX12_stand, cX12_stand, 4, some FieldType.int, 12, 1045) := rfl
theorem mx110 : am_mx 110 = 4 := by unfold am_mx; rw [m110]
theorem m111 : am_m 111 = (yX12_feed, cX12_feed, 5, some FieldType.int, 12, 1055) := rfl
theorem mx111 : am_mx 111 = 5 := by unfold am_mx; rw [m111]
theorem m112 : am_m 112 = (yX12_here, cX12_here, 1, some FieldType.int, 12, 1068) := rfl
theorem mx112 : am_mx 112 = 1 := by unfold am_mx; rw [m112]
theorem m113 : am_m 113 = (yX12_must, cX12_must, 2, none, 12, 1083) := rfl
theorem mx113 : am_mx 113 = 2 := by unfold am_mx; rw [m113]
theorem m114 : am_m 114 = (yX12_spells, cX12_spells, 3, none, 12, 1077) := rfl
theorem mx114 : am_mx 114 = 3 := by unfold am_mx; rw [m114]
theorem m115 : am_m 115 = (yX12_figures, cX12_figures, 3, some FieldType.int, 12, 1087) := rfl
theorem mx115 : am_mx 115 = 3 := by unfold am_mx; rw [m115]
theorem m116 : am_m 116 = (yX12_among, cX12_among, 3, some FieldType.int, 12, 1108) := rfl
theorem mx116 : am_mx 116 = 3 := by unfold am_mx; rw [m116]
theorem m117 : am_m 117 = (yX12_emits, cX12_emits, 2, none, 12, 1103) := rfl
theorem mx117 : am_mx 117 = 2 := by unfold am_mx; rw [m117]
theorem m118 : am_m 118 = (yX12_factor, cX12_factor, 5, none, 12, 1099) := rfl
theorem mx118 : am_mx 118 = 5 := by unfold am_mx; rw [m118]
theorem m119 : am_m 119 = (yX12_every, cX12_every, 1, none, 12, 1095) := rfl
theorem mx119 : am_mx 119 = 1 := by unfold am_mx; rw [m119]
theorem m120 : am_m 120 = (yX12_some, cX12_some, 1, none, 12, 1091) := rfl
theorem mx120 : am_mx 120 = 1 := by unfold am_mx; rw [m120]
theorem m121 : am_m 121 = (yX12_much, cX12_much, 4, none, 12, 1073) := rfl
theorem mx121 : am_mx 121 = 4 := by unfold am_mx; rw [m121]
theorem m122 : am_m 122 = (yX12_tellsHere, cX12_tellsHere, 4, none, 12, 1115) := rfl
theorem mx122 : am_mx 122 = 4 := by unfold am_mx; rw [m122]
theorem m123 : am_m 123 = (yX12_clauseOfC, cX12_clauseOfC, 1, none, 12, 1119) := rfl
theorem mx123 : am_mx 123 = 1 := by unfold am_mx; rw [m123]
theorem m124 : am_m 124 = (yX12_clauseHere, cX12_clauseHere, 1, none, 12, 1064) := rfl
theorem mx124 : am_mx 124 = 1 := by unfold am_mx; rw [m124]
theorem m125 : am_m 125 = (yX12_town, cX12_town, 2, some FieldType.int, 12, 1060) := rfl
theorem mx125 : am_mx 125 = 2 := by unfold am_mx; rw [m125]
theorem m126 : am_m 126 = (yX12_tellsOf, cX12_tellsOf, 3, some FieldType.int, 12, 1138) := rfl
theorem mx126 : am_mx 126 = 3 := by unfold am_mx; rw [m126]
theorem m127 : am_m 127 = (yX12_looks, cX12_looks, 14, none, 12, 1134) := rfl
theorem mx127 : am_mx 127 = 14 := by unfold am_mx; rw [m127]
theorem m128 : am_m 128 = (yX12_rainOf, cX12_rainOf, 3, some FieldType.int, 12, 1130) := rfl
theorem mx128 : am_mx 128 = 3 := by unfold am_mx; rw [m128]
theorem m129 : am_m 129 = (yX12_told, cX12_told, 2, some FieldType.int, 12, 1126) := rfl
theorem mx129 : am_mx 129 = 2 := by unfold am_mx; rw [m129]
theorem m130 : am_m 130 = (yX12_person, cX12_person, 5, some FieldType.int, 12, 1142) := rfl
theorem mx130 : am_mx 130 = 5 := by unfold am_mx; rw [m130]
theorem m131 : am_m 131 = (yX12_step, cX12_step, 4, some FieldType.int, 12, 1146) := rfl
theorem mx131 : am_mx 131 = 4 := by unfold am_mx; rw [m131]
theorem m132 : am_m 132 = (yX12_doorOf, cX12_doorOf, 2, some FieldType.int, 12, 1158) := rfl
theorem mx132 : am_mx 132 = 2 := by unfold am_mx; rw [m132]
theorem m133 : am_m 133 = (yX12_otherOf, cX12_otherOf, 2, some FieldType.int, 12, 1166) := rfl
theorem mx133 : am_mx 133 = 2 := by unfold am_mx; rw [m133]
theorem m134 : am_m 134 = (yX12_doesTake, cX12_doesTake, 6, some FieldType.boolean, 12, 1162) := rfl
theorem mx134 : am_mx 134 = 6 := by unfold am_mx; rw [m134]
theorem m135 : am_m 135 = (yX12_of, cX12_of, 3, some FieldType.int, 12, 1154) := rfl
theorem mx135 : am_mx 135 = 3 := by unfold am_mx; rw [m135]
theorem m136 : am_m 136 = (yX12_goesAlong, cX12_goesAlong, 4, some FieldType.boolean, 12, 1186) := rfl
theorem mx136 : am_mx 136 = 4 := by unfold am_mx; rw [m136]
theorem m137 : am_m 137 = (yX12_walksOut, cX12_walksOut, 5, none, 12, 1182) := rfl
theorem mx137 : am_mx 137 = 5 := by unfold am_mx; rw [m137]
theorem m138 : am_m 138 = (yX12_hourGoes, cX12_hourGoes, 5, none, 12, 1178) := rfl
theorem mx138 : am_mx 138 = 5 := by unfold am_mx; rw [m138]
theorem m139 : am_m 139 = (yX12_begins, cX12_begins, 1, none, 12, 1174) := rfl
theorem mx139 : am_mx 139 = 1 := by unfold am_mx; rw [m139]
theorem m140 : am_m 140 = (yX12_go, cX12_go, 3, some FieldType.int, 12, 1170) := rfl
theorem mx140 : am_mx 140 = 3 := by unfold am_mx; rw [m140]
theorem m141 : am_m 141 = (yX12_row, cX12_row, 2, some FieldType.int, 12, 1190) := rfl
theorem mx141 : am_mx 141 = 2 := by unfold am_mx; rw [m141]
theorem m142 : am_m 142 = (yX12_hand, cX12_hand, 4, some FieldType.int, 12, 1194) := rfl
theorem mx142 : am_mx 142 = 4 := by unfold am_mx; rw [m142]
theorem m143 : am_m 143 = (yX12_allSkies, cX12_allSkies, 6, none, 12, 1215) := rfl
theorem mx143 : am_mx 143 = 6 := by unfold am_mx; rw [m143]
theorem m144 : am_m 144 = (yX12_meanOf, cX12_meanOf, 3, some FieldType.long, 12, 1211) := rfl
theorem mx144 : am_mx 144 = 3 := by unfold am_mx; rw [m144]
theorem m145 : am_m 145 = (yX12_power, cX12_power, 4, some FieldType.long, 12, 1218) := rfl
theorem mx145 : am_mx 145 = 4 := by unfold am_mx; rw [m145]
theorem m146 : am_m 146 = (yX12_divisor, cX12_divisor, 10, some FieldType.long, 12, 1225) := rfl
theorem mx146 : am_mx 146 = 10 := by unfold am_mx; rw [m146]
theorem m147 : am_m 147 = (yX12_lowest, cX12_lowest, 5, some FieldType.long, 12, 1222) := rfl
theorem mx147 : am_mx 147 = 5 := by unfold am_mx; rw [m147]
theorem m148 : am_m 148 = (yX12_mean, cX12_mean, 6, some FieldType.long, 12, 1206) := rfl
theorem mx148 : am_mx 148 = 6 := by unfold am_mx; rw [m148]
theorem m149 : am_m 149 = (yX12_keepsStands, cX12_keepsStands, 2, none, 12, 1233) := rfl
theorem mx149 : am_mx 149 = 2 := by unfold am_mx; rw [m149]
theorem m150 : am_m 150 = (yX12_putsStandsBack, cX12_putsStandsBack, 2, none, 12, 1238) := rfl
theorem mx150 : am_mx 150 = 2 := by unfold am_mx; rw [m150]
theorem m151 : am_m 151 = (yX12_least, cX12_least, 7, some FieldType.int, 12, 1229) := rfl
theorem mx151 : am_mx 151 = 7 := by unfold am_mx; rw [m151]
theorem m152 : am_m 152 = (yX12_start, cX12_start, 11, some FieldType.int, 12, 1242) := rfl
theorem mx152 : am_mx 152 = 11 := by unfold am_mx; rw [m152]
theorem m153 : am_m 153 = (yX12_rule, cX12_rule, 11, some FieldType.int, 12, 1250) := rfl
theorem mx153 : am_mx 153 = 11 := by unfold am_mx; rw [m153]
theorem m154 : am_m 154 = (yX12_gather, cX12_gather, 6, some FieldType.int, 12, 1254) := rfl
theorem mx154 : am_mx 154 = 6 := by unfold am_mx; rw [m154]
theorem m155 : am_m 155 = (yX12_penny, cX12_penny, 9, some FieldType.long, 12, 1258) := rfl
theorem mx155 : am_mx 155 = 9 := by unfold am_mx; rw [m155]
theorem m156 : am_m 156 = (yX12_cart, cX12_cart, 4, some FieldType.int, 12, 1262) := rfl
theorem mx156 : am_mx 156 = 4 := by unfold am_mx; rw [m156]
theorem m157 : am_m 157 = (yX12_count1, cX12_count1, 3, some FieldType.int, 12, 1269) := rfl
theorem mx157 : am_mx 157 = 3 := by unfold am_mx; rw [m157]
theorem m158 : am_m 158 = (yX12_isDry, cX12_isDry, 5, some FieldType.boolean, 12, 1273) := rfl
theorem mx158 : am_mx 158 = 5 := by unfold am_mx; rw [m158]
theorem m159 : am_m 159 = (yX12_needed, cX12_needed, 4, some FieldType.int, 12, 1266) := rfl
theorem mx159 : am_mx 159 = 4 := by unfold am_mx; rw [m159]
theorem m160 : am_m 160 = (yX12_book, cX12_book, 3, some FieldType.int, 12, 1278) := rfl
theorem mx160 : am_mx 160 = 3 := by unfold am_mx; rw [m160]
theorem m161 : am_m 161 = (yX12_vanish, cX12_vanish, 10, some FieldType.int, 12, 1282) := rfl
theorem mx161 : am_mx 161 = 10 := by unfold am_mx; rw [m161]
theorem m162 : am_m 162 = (yX12_runs, cX12_runs, 2, none, 12, 1297) := rfl
theorem mx162 : am_mx 162 = 2 := by unfold am_mx; rw [m162]
theorem m163 : am_m 163 = (yX12_isUnder, cX12_isUnder, 2, some FieldType.boolean, 12, 1293) := rfl
theorem mx163 : am_mx 163 = 2 := by unfold am_mx; rw [m163]
theorem m164 : am_m 164 = (yX12_plainTakes, cX12_plainTakes, 2, some FieldType.int, 12, 1301) := rfl
theorem mx164 : am_mx 164 = 2 := by unfold am_mx; rw [m164]
theorem m165 : am_m 165 = (yX12_takesActs, cX12_takesActs, 2, some FieldType.int, 12, 1290) := rfl
theorem mx165 : am_mx 165 = 2 := by unfold am_mx; rw [m165]
theorem m166 : am_m 166 = (yX12_plainWalks, cX12_plainWalks, 2, some FieldType.int, 12, 1313) := rfl
theorem mx166 : am_mx 166 = 2 := by unfold am_mx; rw [m166]
theorem m167 : am_m 167 = (yX12_backWalks, cX12_backWalks, 2, some FieldType.int, 12, 1309) := rfl
theorem mx167 : am_mx 167 = 2 := by unfold am_mx; rw [m167]
theorem m168 : am_m 168 = (yX12_walksActs, cX12_walksActs, 2, some FieldType.int, 12, 1305) := rfl
theorem mx168 : am_mx 168 = 2 := by unfold am_mx; rw [m168]
theorem m169 : am_m 169 = (yX12_plainTells, cX12_plainTells, 2, some FieldType.int, 12, 1321) := rfl
theorem mx169 : am_mx 169 = 2 := by unfold am_mx; rw [m169]
theorem m170 : am_m 170 = (yX12_tellsActs, cX12_tellsActs, 3, some FieldType.int, 12, 1317) := rfl
theorem mx170 : am_mx 170 = 3 := by unfold am_mx; rw [m170]
theorem m171 : am_m 171 = (yX12_act, cX12_act, 4, some FieldType.int, 12, 1286) := rfl
theorem mx171 : am_mx 171 = 4 := by unfold am_mx; rw [m171]
theorem m172 : am_m 172 = (yX12_trace, cX12_trace, 2, some FieldType.int, 12, 1325) := rfl
theorem mx172 : am_mx 172 = 2 := by unfold am_mx; rw [m172]
theorem m173 : am_m 173 = (yX12_as, cX12_as, 3, some FieldType.int, 12, 1329) := rfl
theorem mx173 : am_mx 173 = 3 := by unfold am_mx; rw [m173]
theorem m174 : am_m 174 = (yX12_image, cX12_image, 2, some FieldType.int, 12, 1333) := rfl
theorem mx174 : am_mx 174 = 2 := by unfold am_mx; rw [m174]
theorem m175 : am_m 175 = (yX12_undo, cX12_undo, 2, some FieldType.int, 12, 1337) := rfl
theorem mx175 : am_mx 175 = 2 := by unfold am_mx; rw [m175]
theorem m176 : am_m 176 = (yX12_count, cX12_count, 2, some FieldType.int, 12, 1341) := rfl
theorem mx176 : am_mx 176 = 2 := by unfold am_mx; rw [m176]
theorem m177 : am_m 177 = (yJ0_length_8abf5, cJ0_length_8abf5, 1, some FieldType.int, 20, 354) := rfl
theorem mx177 : am_mx 177 = 1 := by unfold am_mx; rw [m177]
theorem m178 : am_m 178 = (yJ0_charAt_5068e, cJ0_charAt_5068e, 2, some FieldType.char, 20, 368) := rfl
theorem mx178 : am_mx 178 = 2 := by unfold am_mx; rw [m178]
theorem m179 : am_m 179 = (yJ0_indexOf_0f7a4, cJ0_indexOf_0f7a4, 2, some FieldType.int, 20, 438) := rfl
theorem mx179 : am_mx 179 = 2 := by unfold am_mx; rw [m179]
theorem m180 : am_m 180 = (yJ0_indexOf_7cf53, cJ0_indexOf_7cf53, 3, some FieldType.int, 20, 442) := rfl
theorem mx180 : am_mx 180 = 3 := by unfold am_mx; rw [m180]
theorem m181 : am_m 181 = (yJ0_coder_7d493, cJ0_coder_7d493, 1, some FieldType.byte, 20, 358) := rfl
theorem mx181 : am_mx 181 = 1 := by unfold am_mx; rw [m181]
theorem m182 : am_m 182 = (yJ0_isLatin1_aae02, cJ0_isLatin1_aae02, 1, some FieldType.boolean, 20, 372) := rfl
theorem mx182 : am_mx 182 = 1 := by unfold am_mx; rw [m182]
theorem m183 : am_m 183 = (yJ0_checkIndex_df160, cJ0_checkIndex_df160, 2, none, 20, 378) := rfl
theorem mx183 : am_mx 183 = 2 := by unfold am_mx; rw [m183]
theorem m184 : am_m 184 = (yJ1_charAt_3b067, cJ1_charAt_3b067, 2, some FieldType.char, 21, 375) := rfl
theorem mx184 : am_mx 184 = 2 := by unfold am_mx; rw [m184]
theorem m185 : am_m 185 = (yJ1_canEncode_9a6ad, cJ1_canEncode_9a6ad, 1, some FieldType.boolean, 21, 449) := rfl
theorem mx185 : am_mx 185 = 1 := by unfold am_mx; rw [m185]
theorem m186 : am_m 186 = (yJ1_indexOf_4cfef, cJ1_indexOf_4cfef, 4, some FieldType.int, 21, 446) := rfl
theorem mx186 : am_mx 186 = 4 := by unfold am_mx; rw [m186]
theorem m187 : am_m 187 = (yJ1_indexOfChar_4cfef, cJ1_indexOfChar_4cfef, 6, some FieldType.int, 21, 456) := rfl
theorem mx187 : am_mx 187 = 6 := by unfold am_mx; rw [m187]
theorem m188 : am_m 188 = (yJ3_checkIndex_8e157, cJ3_checkIndex_8e157, 3, some FieldType.int, 23, 383) := rfl
theorem mx188 : am_mx 188 = 3 := by unfold am_mx; rw [m188]
theorem m189 : am_m 189 = (yJ6_bitCount_0f7a4, cJ6_bitCount_0f7a4, 1, some FieldType.int, 26, 831) := rfl
theorem mx189 : am_mx 189 = 1 := by unfold am_mx; rw [m189]
theorem m190 : am_m 190 = (yJ9_abs_067f4, cJ9_abs_067f4, 2, some FieldType.long, 29, 770) := rfl
theorem mx190 : am_mx 190 = 2 := by unfold am_mx; rw [m190]
theorem m191 : am_m 191 = (yJ9_max_7cf53, cJ9_max_7cf53, 2, some FieldType.int, 29, 405) := rfl
theorem mx191 : am_mx 191 = 2 := by unfold am_mx; rw [m191]
theorem m192 : am_m 192 = (yJ9_max_f86c9, cJ9_max_f86c9, 4, some FieldType.long, 29, 776) := rfl
theorem mx192 : am_mx 192 = 4 := by unfold am_mx; rw [m192]
theorem m193 : am_m 193 = (yJ9_min_7cf53, cJ9_min_7cf53, 2, some FieldType.int, 29, 453) := rfl
theorem mx193 : am_mx 193 = 2 := by unfold am_mx; rw [m193]
theorem m194 : am_m 194 = (yL_law, cL_law, 4, some .boolean, 30, 0) := rfl
theorem mx194 : am_mx 194 = 4 := by unfold am_mx; rw [m194]
theorem koin_0_3 : am_lk am_oiL 0 3 = none := by decide +kernel
theorem kip_0_3 : am_lk am_ipL 0 3 = some (5, 45, 1, [1, 2, 3, 4, 5, 6, 10], [538, 539, 78]) := by decide +kernel
theorem kf_0_9 : am_lk am_fldL 0 9 = some (2, 0, 0, [11], 117) := by decide +kernel
theorem kiv_0_15 : am_lk am_ivL 0 15 = some (2, [(8, 22, 0, [669, 523, 524, 69])]) := by decide +kernel
theorem kf_0_21 : am_lk am_fldL 0 21 = some (4, 0, 0, [1, 2], 559) := by decide +kernel
theorem kiv_0_26 : am_lk am_ivL 0 26 = some (1, [(9, 44, 0, [862, 863, 864, 70])]) := by decide +kernel
theorem koin_0_32 : am_lk am_oiL 0 32 = none := by decide +kernel
theorem kip_0_32 : am_lk am_ipL 0 32 = some (2, 49, 3, [1, 2], [866, 858, 576, 856, 78]) := by decide +kernel
theorem koin_1_1 : am_lk am_oiL 1 1 = none := by decide +kernel
theorem kip_1_1 : am_lk am_ipL 1 1 = some (5, 0, 1, [1, 2], [606, 536, 79]) := by decide +kernel
theorem kiv_1_7 : am_lk am_ivL 1 7 = some (1, [(9, 44, 0, [908, 863, 864, 70])]) := by decide +kernel
theorem koin_1_13 : am_lk am_oiL 1 13 = none := by decide +kernel
theorem kip_1_13 : am_lk am_ipL 1 13 = some (2, 51, 4, [2], [909, 910, 612, 576, 901, 78]) := by decide +kernel
theorem kiv_1_17 : am_lk am_ivL 1 17 = some (2, [(2, 2, 1, [912, 913, 860, 915, 860, 79, 861])]) := by decide +kernel
theorem koin_2_3 : am_lk am_oiL 2 3 = none := by decide +kernel
theorem kip_2_3 : am_lk am_ipL 2 3 = some (5, 45, 1, [1, 2, 3, 4, 5, 6, 10], [582, 539, 78]) := by decide +kernel
theorem kf_2_9 : am_lk am_fldL 2 9 = some (1, 3, 2, [11], 112) := by decide +kernel
theorem kf_2_15 : am_lk am_fldL 2 15 = some (1, 0, 2, [3, 4, 6], 545) := by decide +kernel
theorem kf_2_21 : am_lk am_fldL 2 21 = some (0, 3, 2, [11], 109) := by decide +kernel
theorem kf_2_24 : am_lk am_fldL 2 24 = some (4, 0, 0, [3, 4, 6], 561) := by decide +kernel
theorem kiv_2_27 : am_lk am_ivL 2 27 = some (1, [(3, 46, 1, [676, 677, 682, 679, 682, 78, 683]), (4, 46, 1, [676, 677, 682, 680, 682, 78, 683]), (6, 46, 1, [676, 677, 682, 681, 682, 78, 683])]) := by decide +kernel
theorem kiv_2_31 : am_lk am_ivL 2 31 = some (1, [(9, 44, 0, [889, 863, 864, 70])]) := by decide +kernel
theorem koin_2_37 : am_lk am_oiL 2 37 = none := by decide +kernel
theorem kip_2_37 : am_lk am_ipL 2 37 = some (2, 50, 3, [3, 4, 6], [890, 883, 588, 881, 78]) := by decide +kernel
theorem koin_3_3 : am_lk am_oiL 3 3 = none := by decide +kernel
theorem kip_3_3 : am_lk am_ipL 3 3 = some (5, 6, 1, [3, 4, 6], [630, 580, 80]) := by decide +kernel
theorem kf_3_9 : am_lk am_fldL 3 9 = some (0, 3, 2, [11], 108) := by decide +kernel
theorem kf_3_15 : am_lk am_fldL 3 15 = some (1, 3, 2, [11], 113) := by decide +kernel
theorem kf_3_18 : am_lk am_fldL 3 18 = some (1, 0, 2, [4], 547) := by decide +kernel
theorem koin_3_24 : am_lk am_oiL 3 24 = none := by decide +kernel
theorem kip_3_24 : am_lk am_ipL 3 24 = some (3, 7, 3, [4], [687, 1343, 636, 674, 80]) := by decide +kernel
theorem kiv_3_28 : am_lk am_ivL 3 28 = some (1, [(9, 44, 0, [894, 863, 864, 70])]) := by decide +kernel
theorem koin_3_34 : am_lk am_oiL 3 34 = none := by decide +kernel
theorem kip_3_34 : am_lk am_ipL 3 34 = some (2, 8, 3, [4], [895, 1352, 636, 887, 80]) := by decide +kernel
theorem kf_3_38 : am_lk am_fldL 3 38 = some (4, 0, 0, [4], 563) := by decide +kernel
theorem koin_4_3 : am_lk am_oiL 4 3 = none := by decide +kernel
theorem kip_4_3 : am_lk am_ipL 4 3 = some (5, 45, 1, [1, 2, 3, 4, 5, 6, 10], [594, 539, 78]) := by decide +kernel
theorem kf_4_9 : am_lk am_fldL 4 9 = some (2, 0, 0, [11], 116) := by decide +kernel
theorem kf_4_15 : am_lk am_fldL 4 15 = some (4, 0, 0, [5], 557) := by decide +kernel
theorem kiv_4_20 : am_lk am_ivL 4 20 = some (1, [(9, 44, 0, [921, 863, 864, 70])]) := by decide +kernel
theorem koin_4_26 : am_lk am_oiL 4 26 = none := by decide +kernel
theorem kip_4_26 : am_lk am_ipL 4 26 = some (2, 51, 3, [5], [922, 903, 600, 901, 78]) := by decide +kernel
theorem koin_5_1 : am_lk am_oiL 5 1 = none := by decide +kernel
theorem kip_5_1 : am_lk am_ipL 5 1 = some (5, 6, 1, [3, 4, 6], [618, 580, 80]) := by decide +kernel
theorem kiv_5_7 : am_lk am_ivL 5 7 = some (1, [(9, 44, 0, [874, 863, 864, 70])]) := by decide +kernel
theorem koin_5_13 : am_lk am_oiL 5 13 = none := by decide +kernel
theorem kip_5_13 : am_lk am_ipL 5 13 = some (2, 49, 4, [6], [875, 876, 624, 588, 856, 78]) := by decide +kernel
theorem kf_5_17 : am_lk am_fldL 5 17 = some (1, 0, 2, [6], 549) := by decide +kernel
theorem koi_6_3 : am_lk am_oiL 6 3 = some 100 := by decide +kernel
theorem knew_6_9 : am_lk am_newL 6 9 = some (11, 9, 101, 102, 68) := by decide +kernel
theorem koin_6_11 : am_lk am_oiL 6 11 = none := by decide +kernel
theorem kip_6_11 : am_lk am_ipL 6 11 = some (0, 52, 2, [11], [103, 104, 68]) := by decide +kernel
theorem kf_6_12 : am_lk am_fldL 6 12 = some (0, 3, 1, [7], 205) := by decide +kernel
theorem kanew_6_18 : am_lk am_anewL 6 18 = some (25, 149, 150) := by decide +kernel
theorem kf_6_20 : am_lk am_fldL 6 20 = some (1, 3, 1, [7], 207) := by decide +kernel
theorem kf_6_24 : am_lk am_fldL 6 24 = some (2, 3, 1, [7], 210) := by decide +kernel
theorem kf_6_28 : am_lk am_fldL 6 28 = some (3, 0, 0, [7], 213) := by decide +kernel
theorem knew_6_32 : am_lk am_newL 6 32 = some (8, 14, 151, 152, 69) := by decide +kernel
theorem koin_6_34 : am_lk am_oiL 6 34 = none := by decide +kernel
theorem kip_6_34 : am_lk am_ipL 6 34 = some (0, 21, 2, [8], [153, 154, 69]) := by decide +kernel
theorem kf_6_35 : am_lk am_fldL 6 35 = some (4, 3, 0, [7], 216) := by decide +kernel
theorem kf_6_39 : am_lk am_fldL 6 39 = some (5, 0, 0, [7], 219) := by decide +kernel
theorem kf_6_42 : am_lk am_fldL 6 42 = some (6, 3, 1, [7], 221) := by decide +kernel
theorem kf_6_46 : am_lk am_fldL 6 46 = some (7, 0, 0, [7], 223) := by decide +kernel
theorem kf_6_49 : am_lk am_fldL 6 49 = some (8, 3, 1, [7], 225) := by decide +kernel
theorem kf_6_52 : am_lk am_fldL 6 52 = some (9, 0, 0, [7], 227) := by decide +kernel
theorem kf_6_55 : am_lk am_fldL 6 55 = some (10, 3, 1, [7], 229) := by decide +kernel
theorem kf_6_58 : am_lk am_fldL 6 58 = some (11, 3, 1, [7], 231) := by decide +kernel
theorem kf_6_61 : am_lk am_fldL 6 61 = some (12, 0, 0, [7], 233) := by decide +kernel
theorem kiv_6_64 : am_lk am_ivL 6 64 = some (1, [(11, 53, 0, [945, 745, 746, 68])]) := by decide +kernel
theorem kac_6_68 : am_lk am_acL 6 68 = some 946 := by decide +kernel
theorem kacn_6_74 : am_lk am_acL 6 74 = none := by decide +kernel
theorem kis_6_74 : am_lk am_isL 6 74 = some (2, 191, [850, 404, 76]) := by decide +kernel
theorem koi_7_3 : am_lk am_oiL 7 3 = some 156 := by decide +kernel
theorem kf_7_9 : am_lk am_fldL 7 9 = some (0, 0, 0, [8], 157) := by decide +kernel
theorem kf_7_15 : am_lk am_fldL 7 15 = some (1, 0, 0, [8], 160) := by decide +kernel
theorem kf_7_18 : am_lk am_fldL 7 18 = some (2, 0, 0, [8], 163) := by decide +kernel
theorem kf_7_21 : am_lk am_fldL 7 21 = some (3, 3, 1, [8], 165) := by decide +kernel
theorem kf_7_25 : am_lk am_fldL 7 25 = some (4, 3, 1, [8], 166) := by decide +kernel
theorem kf_7_28 : am_lk am_fldL 7 28 = some (5, 3, 1, [8], 167) := by decide +kernel
theorem kf_7_31 : am_lk am_fldL 7 31 = some (6, 3, 1, [8], 168) := by decide +kernel
theorem kf_7_34 : am_lk am_fldL 7 34 = some (7, 0, 0, [8], 169) := by decide +kernel
theorem kf_7_37 : am_lk am_fldL 7 37 = some (8, 3, 1, [8], 170) := by decide +kernel
theorem kf_7_40 : am_lk am_fldL 7 40 = some (9, 0, 0, [8], 171) := by decide +kernel
theorem kf_7_43 : am_lk am_fldL 7 43 = some (10, 3, 1, [8], 172) := by decide +kernel
theorem kf_7_46 : am_lk am_fldL 7 46 = some (11, 3, 0, [8], 173) := by decide +kernel
theorem kf_7_50 : am_lk am_fldL 7 50 = some (12, 0, 0, [8], 174) := by decide +kernel
theorem kf_7_53 : am_lk am_fldL 7 53 = some (13, 0, 0, [8], 175) := by decide +kernel
theorem kiv_7_56 : am_lk am_ivL 7 56 = some (5, [(8, 24, 0, [501, 503, 13, 69])]) := by decide +kernel
theorem kiv_7_60 : am_lk am_ivL 7 60 = some (2, [(8, 25, 0, [505, 507, 14, 69])]) := by decide +kernel
theorem kiv_7_64 : am_lk am_ivL 7 64 = some (1, [(8, 26, 0, [509, 511, 15, 69])]) := by decide +kernel
theorem kiv_7_68 : am_lk am_ivL 7 68 = some (0, [(8, 28, 0, [331, 333, 0, 69])]) := by decide +kernel
theorem kiv_7_72 : am_lk am_ivL 7 72 = some (1, [(8, 40, 0, [406, 408, 4, 69])]) := by decide +kernel
theorem kiv_7_76 : am_lk am_ivL 7 76 = some (0, [(8, 32, 0, [335, 337, 1, 69])]) := by decide +kernel
theorem kiv_7_80 : am_lk am_ivL 7 80 = some (0, [(8, 35, 0, [410, 412, 5, 69])]) := by decide +kernel
theorem kiv_7_83 : am_lk am_ivL 7 83 = some (1, [(8, 36, 0, [414, 416, 6, 69])]) := by decide +kernel
theorem kiv_7_86 : am_lk am_ivL 7 86 = some (3, [(8, 29, 0, [493, 495, 11, 69])]) := by decide +kernel
theorem kiv_7_90 : am_lk am_ivL 7 90 = some (2, [(8, 30, 0, [497, 499, 12, 69])]) := by decide +kernel
theorem kiv_7_94 : am_lk am_ivL 7 94 = some (2, [(8, 31, 0, [514, 516, 16, 69])]) := by decide +kernel
theorem kacn_7_97 : am_lk am_acL 7 97 = none := by decide +kernel
theorem kis_7_97 : am_lk am_isL 7 97 = some (2, 193, [513, 452, 76]) := by decide +kernel
theorem kacn_7_103 : am_lk am_acL 7 103 = none := by decide +kernel
theorem kis_7_103 : am_lk am_isL 7 103 = some (1, 33, [339, 340, 69]) := by decide +kernel
theorem kiv_7_107 : am_lk am_ivL 7 107 = some (1, [(8, 34, 0, [347, 349, 2, 69])]) := by decide +kernel
theorem kiv_7_111 : am_lk am_ivL 7 111 = some (0, [(31, 177, 0, [351, 352, 353, 72])]) := by decide +kernel
theorem kacn_7_116 : am_lk am_acL 7 116 = none := by decide +kernel
theorem kis_7_116 : am_lk am_isL 7 116 = some (2, 191, [403, 404, 76]) := by decide +kernel
theorem kldc_7_119 : am_lk am_ldcL 7 119 = some (.ref 10, 342) := by rfl
theorem kldc_7_121 : am_lk am_ldcL 7 121 = some (.ref 11, 343) := by rfl
theorem kldc_7_122 : am_lk am_ldcL 7 122 = some (.ref 12, 344) := by rfl
theorem kldc_7_123 : am_lk am_ldcL 7 123 = some (.ref 13, 345) := by rfl
theorem kldc_7_125 : am_lk am_ldcL 7 125 = some (.ref 14, 346) := by rfl
theorem kiv_7_127 : am_lk am_ivL 7 127 = some (1, [(8, 41, 0, [361, 363, 3, 69])]) := by decide +kernel
theorem kiv_7_131 : am_lk am_ivL 7 131 = some (1, [(31, 178, 0, [365, 366, 367, 72])]) := by decide +kernel
theorem kiv_7_135 : am_lk am_ivL 7 135 = some (1, [(8, 37, 0, [418, 420, 7, 69])]) := by decide +kernel
theorem kiv_7_138 : am_lk am_ivL 7 138 = some (1, [(8, 42, 0, [426, 428, 9, 69])]) := by decide +kernel
theorem kiv_7_141 : am_lk am_ivL 7 141 = some (1, [(8, 38, 0, [422, 424, 8, 69])]) := by decide +kernel
theorem kiv_7_144 : am_lk am_ivL 7 144 = some (0, [(8, 39, 0, [430, 432, 10, 69])]) := by decide +kernel
theorem kldc_7_147 : am_lk am_ldcL 7 147 = some (.ref 15, 434) := by rfl
theorem kiv_7_149 : am_lk am_ivL 7 149 = some (1, [(31, 179, 0, [435, 436, 437, 72])]) := by decide +kernel
theorem kldc_7_152 : am_lk am_ldcL 7 152 = some (.ref 16, 492) := by rfl
theorem koi_8_3 : am_lk am_oiL 8 3 = some 268 := by decide +kernel
theorem kf_8_9 : am_lk am_fldL 8 9 = some (0, 3, 1, [9], 269) := by decide +kernel
theorem kf_8_15 : am_lk am_fldL 8 15 = some (1, 0, 0, [9], 271) := by decide +kernel
theorem koi_9_3 : am_lk am_oiL 9 3 = some 541 := by decide +kernel
theorem kf_9_9 : am_lk am_fldL 9 9 = some (0, 0, 1, [1, 2, 3, 4, 5, 6, 10], 542) := by decide +kernel
theorem kf_9_15 : am_lk am_fldL 9 15 = some (1, 0, 1, [1, 2, 3, 4, 5, 6, 10], 544) := by decide +kernel
theorem kf_9_18 : am_lk am_fldL 9 18 = some (4, 0, 0, [1, 2, 3, 4, 5, 6, 10], 556) := by decide +kernel
theorem kf_9_21 : am_lk am_fldL 9 21 = some (2, 0, 1, [1, 2, 3, 4, 5, 6, 10], 552) := by decide +kernel
theorem kf_9_24 : am_lk am_fldL 9 24 = some (3, 0, 1, [1, 2, 3, 4, 5, 6, 10], 554) := by decide +kernel
theorem kiv_9_27 : am_lk am_ivL 9 27 = some (1, [(9, 44, 0, [879, 863, 864, 70])]) := by decide +kernel
theorem kiv_9_33 : am_lk am_ivL 9 33 = some (2, [(1, 2, 1, [899, 858, 856, 859, 860, 79, 878]), (2, 2, 1, [899, 858, 856, 867, 860, 79, 878]), (3, 49, 1, [899, 858, 856, 868, 856, 78, 878]), (4, 49, 1, [899, 858, 856, 869, 856, 78, 878]), (5, 49, 1, [899, 858, 856, 870, 856, 78, 878]), (6, 17, 1, [899, 858, 856, 871, 872, 83, 878]), (10, 49, 0, [899, 856, 857, 78])]) := by decide +kernel
theorem kiv_9_37 : am_lk am_ivL 9 37 = some (2, [(1, 50, 1, [925, 883, 881, 884, 881, 78, 898]), (2, 50, 1, [925, 883, 881, 885, 881, 78, 898]), (3, 8, 1, [925, 883, 881, 886, 887, 80, 898]), (4, 11, 1, [925, 883, 881, 891, 892, 84, 898]), (5, 50, 1, [925, 883, 881, 896, 881, 78, 898]), (6, 8, 1, [925, 883, 881, 897, 887, 80, 898]), (10, 50, 0, [925, 881, 882, 78])]) := by decide +kernel
theorem koi_10_3 : am_lk am_oiL 10 3 = some 106 := by decide +kernel
theorem kf_10_9 : am_lk am_fldL 10 9 = some (0, 3, 1, [11], 107) := by decide +kernel
theorem kf_10_15 : am_lk am_fldL 10 15 = some (1, 3, 1, [11], 111) := by decide +kernel
theorem kf_10_18 : am_lk am_fldL 10 18 = some (2, 0, 0, [11], 115) := by decide +kernel
theorem kf_10_22 : am_lk am_fldL 10 22 = some (3, 0, 0, [11], 119) := by decide +kernel
theorem kf_10_25 : am_lk am_fldL 10 25 = some (4, 0, 0, [11], 121) := by decide +kernel
theorem kf_10_28 : am_lk am_fldL 10 28 = some (5, 0, 0, [11], 123) := by decide +kernel
theorem kf_10_31 : am_lk am_fldL 10 31 = some (6, 0, 0, [11], 125) := by decide +kernel
theorem kf_10_34 : am_lk am_fldL 10 34 = some (7, 3, 1, [11], 127) := by decide +kernel
theorem kf_10_37 : am_lk am_fldL 10 37 = some (8, 0, 0, [11], 128) := by decide +kernel
theorem kf_10_40 : am_lk am_fldL 10 40 = some (1, 0, 2, [1, 2, 3, 4, 5, 6, 10], 551) := by decide +kernel
theorem kiv_10_45 : am_lk am_ivL 10 45 = some (3, [(1, 1, 1, [662, 665, 663, 666, 667, 79, 692]), (2, 4, 1, [662, 665, 663, 670, 671, 82, 692]), (3, 7, 1, [662, 665, 663, 673, 674, 80, 692]), (4, 10, 1, [662, 665, 663, 684, 685, 84, 692]), (5, 13, 1, [662, 665, 663, 688, 689, 81, 692]), (6, 7, 1, [662, 665, 663, 691, 674, 80, 692]), (10, 47, 0, [662, 663, 664, 78])]) := by decide +kernel
theorem kf_10_49 : am_lk am_fldL 10 49 = some (3, 0, 0, [7], 215) := by decide +kernel
theorem kf_10_54 : am_lk am_fldL 10 54 = some (1, 3, 2, [7], 209) := by decide +kernel
theorem kf_10_58 : am_lk am_fldL 10 58 = some (2, 3, 2, [7], 212) := by decide +kernel
theorem kf_10_61 : am_lk am_fldL 10 61 = some (4, 3, 0, [7], 218) := by decide +kernel
theorem kiv_10_65 : am_lk am_ivL 10 65 = some (2, [(11, 59, 0, [705, 707, 18, 68])]) := by decide +kernel
theorem kiv_10_69 : am_lk am_ivL 10 69 = some (0, [(11, 60, 0, [727, 729, 19, 68])]) := by decide +kernel
theorem kiv_10_72 : am_lk am_ivL 10 72 = some (1, [(1, 46, 1, [709, 1344, 682, 1345, 682, 78, 683]), (2, 46, 1, [709, 1344, 682, 1346, 682, 78, 683]), (3, 46, 1, [709, 1344, 682, 1347, 682, 78, 683]), (4, 46, 1, [709, 1344, 682, 1348, 682, 78, 683]), (5, 46, 1, [709, 1344, 682, 1349, 682, 78, 683]), (6, 46, 1, [709, 1344, 682, 1350, 682, 78, 683]), (10, 46, 0, [709, 682, 1351, 78])]) := by decide +kernel
theorem kf_10_76 : am_lk am_fldL 10 76 = some (1, 0, 0, [8], 162) := by decide +kernel
theorem kiv_10_81 : am_lk am_ivL 10 81 = some (5, [(8, 23, 0, [710, 711, 712, 69])]) := by decide +kernel
theorem kiv_10_85 : am_lk am_ivL 10 85 = some (0, [(1, 48, 1, [714, 717, 715, 718, 715, 78, 726]), (2, 48, 1, [714, 717, 715, 719, 715, 78, 726]), (3, 48, 1, [714, 717, 715, 720, 715, 78, 726]), (4, 48, 1, [714, 717, 715, 721, 715, 78, 726]), (5, 48, 1, [714, 717, 715, 722, 715, 78, 726]), (6, 16, 1, [714, 717, 715, 723, 724, 83, 726]), (10, 48, 0, [714, 715, 716, 78])]) := by decide +kernel
theorem kf_10_89 : am_lk am_fldL 10 89 = some (0, 0, 0, [8], 159) := by decide +kernel
theorem kacn_10_92 : am_lk am_acL 10 92 = none := by decide +kernel
theorem kis_10_92 : am_lk am_isL 10 92 = some (2, 193, [731, 452, 76]) := by decide +kernel
theorem koi_11_3 : am_lk am_oiL 11 3 = some 92 := by decide +kernel
theorem knew_11_9 : am_lk am_newL 11 9 = some (7, 13, 95, 96, 67) := by decide +kernel
theorem koin_11_11 : am_lk am_oiL 11 11 = none := by decide +kernel
theorem kip_11_11 : am_lk am_ipL 11 11 = some (0, 18, 2, [7], [97, 98, 67]) := by decide +kernel
theorem kf_11_12 : am_lk am_fldL 11 12 = some (0, 3, 1, [12], 281) := by decide +kernel
theorem kf_11_18 : am_lk am_fldL 11 18 = some (1, 3, 1, [12], 282) := by decide +kernel
theorem kf_11_21 : am_lk am_fldL 11 21 = some (2, 1, 0, [12], 283) := by decide +kernel
theorem knew_11_25 : am_lk am_newL 11 25 = some (9, 2, 263, 264, 70) := by decide +kernel
theorem koin_11_27 : am_lk am_oiL 11 27 = none := by decide +kernel
theorem kip_11_27 : am_lk am_ipL 11 27 = some (0, 43, 2, [9], [265, 266, 70]) := by decide +kernel
theorem kf_11_28 : am_lk am_fldL 11 28 = some (3, 3, 1, [12], 284) := by decide +kernel
theorem kanew_11_32 : am_lk am_anewL 11 32 = some (24, 278, 279) := by decide +kernel
theorem kf_11_34 : am_lk am_fldL 11 34 = some (4, 3, 1, [12], 285) := by decide +kernel
theorem kf_11_38 : am_lk am_fldL 11 38 = some (5, 3, 1, [12], 286) := by decide +kernel
theorem kf_11_42 : am_lk am_fldL 11 42 = some (6, 2, 0, [12], 287) := by decide +kernel
theorem kf_11_46 : am_lk am_fldL 11 46 = some (7, 2, 0, [12], 288) := by decide +kernel
theorem kf_11_49 : am_lk am_fldL 11 49 = some (8, 0, 0, [12], 289) := by decide +kernel
theorem knew_11_32 : am_lk am_newL 11 32 = some (11, 9, 278, 102, 68) := by decide +kernel
theorem koin_11_53 : am_lk am_oiL 11 53 = none := by decide +kernel
theorem kip_11_53 : am_lk am_ipL 11 53 = some (0, 52, 2, [11], [280, 104, 68]) := by decide +kernel
theorem kacn_11_54 : am_lk am_acL 11 54 = none := by decide +kernel
theorem kis_11_54 : am_lk am_isL 11 54 = some (1, 89, [314, 315, 66]) := by decide +kernel
theorem kf_11_58 : am_lk am_fldL 11 58 = some (0, 3, 2, [7], 206) := by decide +kernel
theorem kf_11_62 : am_lk am_fldL 11 62 = some (0, 3, 2, [11], 110) := by decide +kernel
theorem kf_11_66 : am_lk am_fldL 11 66 = some (7, 0, 0, [7], 224) := by decide +kernel
theorem kf_11_69 : am_lk am_fldL 11 69 = some (6, 3, 2, [7], 222) := by decide +kernel
theorem kf_11_73 : am_lk am_fldL 11 73 = some (5, 0, 0, [7], 220) := by decide +kernel
theorem knew_11_76 : am_lk am_newL 11 76 = some (8, 14, 325, 152, 69) := by decide +kernel
theorem koin_11_78 : am_lk am_oiL 11 78 = none := by decide +kernel
theorem kip_11_78 : am_lk am_ipL 11 78 = some (0, 21, 2, [8], [326, 154, 69]) := by decide +kernel
theorem kiv_11_79 : am_lk am_ivL 11 79 = some (2, [(8, 27, 0, [327, 328, 329, 69])]) := by decide +kernel
theorem kf_11_83 : am_lk am_fldL 11 83 = some (4, 3, 0, [7], 217) := by decide +kernel
theorem kf_11_87 : am_lk am_fldL 11 87 = some (2, 0, 0, [11], 118) := by decide +kernel
theorem kf_11_90 : am_lk am_fldL 11 90 = some (3, 0, 0, [11], 120) := by decide +kernel
theorem kiv_11_93 : am_lk am_ivL 11 93 = some (2, [(8, 22, 0, [522, 523, 524, 69])]) := by decide +kernel
theorem kf_11_97 : am_lk am_fldL 11 97 = some (0, 0, 0, [8], 158) := by decide +kernel
theorem kf_11_100 : am_lk am_fldL 11 100 = some (1, 0, 0, [8], 161) := by decide +kernel
theorem kf_11_103 : am_lk am_fldL 11 103 = some (2, 0, 0, [8], 164) := by decide +kernel
theorem kf_11_106 : am_lk am_fldL 11 106 = some (3, 0, 0, [7], 214) := by decide +kernel
theorem kf_11_109 : am_lk am_fldL 11 109 = some (1, 3, 2, [7], 208) := by decide +kernel
theorem kacn_11_113 : am_lk am_acL 11 113 = none := by decide +kernel
theorem kis_11_113 : am_lk am_isL 11 113 = some (5, 91, [530, 531, 66]) := by decide +kernel
theorem kf_11_117 : am_lk am_fldL 11 117 = some (2, 3, 2, [7], 211) := by decide +kernel
theorem kf_11_120 : am_lk am_fldL 11 120 = some (1, 3, 2, [11], 114) := by decide +kernel
theorem kiv_11_123 : am_lk am_ivL 11 123 = some (1, [(12, 90, 0, [650, 652, 17, 66])]) := by decide +kernel
theorem kf_11_127 : am_lk am_fldL 11 127 = some (0, 0, 2, [1, 2, 3, 4, 5, 6, 10], 543) := by decide +kernel
theorem kf_11_132 : am_lk am_fldL 11 132 = some (4, 0, 0, [1, 2, 3, 4, 5, 6, 10], 565) := by decide +kernel
theorem kf_11_135 : am_lk am_fldL 11 135 = some (2, 0, 2, [1, 2, 3, 4, 5, 6, 10], 553) := by decide +kernel
theorem kf_11_138 : am_lk am_fldL 11 138 = some (3, 0, 2, [1, 2, 3, 4, 5, 6, 10], 555) := by decide +kernel
theorem kiv_11_141 : am_lk am_ivL 11 141 = some (3, [(11, 57, 0, [658, 659, 660, 68])]) := by decide +kernel
theorem kiv_11_145 : am_lk am_ivL 11 145 = some (0, [(11, 54, 0, [697, 698, 699, 68])]) := by decide +kernel
theorem kiv_11_148 : am_lk am_ivL 11 148 = some (2, [(11, 58, 0, [701, 702, 703, 68])]) := by decide +kernel
theorem kf_11_152 : am_lk am_fldL 11 152 = some (4, 0, 0, [11], 122) := by decide +kernel
theorem kf_11_155 : am_lk am_fldL 11 155 = some (9, 0, 0, [7], 228) := by decide +kernel
theorem kf_11_158 : am_lk am_fldL 11 158 = some (8, 3, 2, [7], 226) := by decide +kernel
theorem kiv_11_161 : am_lk am_ivL 11 161 = some (0, [(12, 93, 0, [740, 742, 20, 66])]) := by decide +kernel
theorem kf_11_165 : am_lk am_fldL 11 165 = some (5, 0, 0, [11], 124) := by decide +kernel
theorem kf_11_168 : am_lk am_fldL 11 168 = some (6, 0, 0, [11], 126) := by decide +kernel
theorem kld2_11_171 : am_lk am_ld2L 11 171 = some ((jI (-9223372036854775808)), 752) := by decide +kernel
theorem kiv_11_173 : am_lk am_ivL 11 173 = some (3, [(12, 94, 0, [753, 755, 21, 66])]) := by decide +kernel
theorem kacn_11_177 : am_lk am_acL 11 177 = none := by decide +kernel
theorem kis_11_177 : am_lk am_isL 11 177 = some (1, 100, [761, 762, 66]) := by decide +kernel
theorem kacn_11_181 : am_lk am_acL 11 181 = none := by decide +kernel
theorem kis_11_181 : am_lk am_isL 11 181 = some (3, 101, [765, 766, 66]) := by decide +kernel
theorem kiv_11_185 : am_lk am_ivL 11 185 = some (4, [(11, 55, 0, [781, 782, 783, 68])]) := by decide +kernel
theorem kld2_11_189 : am_lk am_ld2L 11 189 = some ((jI 100), 785) := by decide +kernel
theorem kiv_11_191 : am_lk am_ivL 11 191 = some (0, [(11, 56, 0, [790, 791, 792, 68])]) := by decide +kernel
theorem kiv_11_195 : am_lk am_ivL 11 195 = some (2, [(12, 96, 0, [794, 796, 23, 66])]) := by decide +kernel
theorem kacn_11_198 : am_lk am_acL 11 198 = none := by decide +kernel
theorem kis_11_198 : am_lk am_isL 11 198 = some (2, 97, [798, 799, 66]) := by decide +kernel
theorem kiv_11_201 : am_lk am_ivL 11 201 = some (1, [(11, 61, 0, [817, 818, 819, 68])]) := by decide +kernel
theorem kiv_11_205 : am_lk am_ivL 11 205 = some (2, [(12, 98, 0, [825, 827, 24, 66])]) := by decide +kernel
theorem kf_11_209 : am_lk am_fldL 11 209 = some (12, 0, 0, [7], 234) := by decide +kernel
theorem kf_11_212 : am_lk am_fldL 11 212 = some (10, 3, 2, [7], 230) := by decide +kernel
theorem kf_11_215 : am_lk am_fldL 11 215 = some (11, 3, 2, [7], 232) := by decide +kernel
theorem kiv_11_218 : am_lk am_ivL 11 218 = some (1, [(7, 20, 0, [846, 847, 848, 67])]) := by decide +kernel
theorem kf_11_221 : am_lk am_fldL 11 221 = some (1, 0, 0, [9], 272) := by decide +kernel
theorem kiv_11_224 : am_lk am_ivL 11 224 = some (2, [(1, 2, 1, [855, 858, 856, 859, 860, 79, 878]), (2, 2, 1, [855, 858, 856, 867, 860, 79, 878]), (3, 49, 1, [855, 858, 856, 868, 856, 78, 878]), (4, 49, 1, [855, 858, 856, 869, 856, 78, 878]), (5, 49, 1, [855, 858, 856, 870, 856, 78, 878]), (6, 17, 1, [855, 858, 856, 871, 872, 83, 878]), (10, 49, 0, [855, 856, 857, 78])]) := by decide +kernel
theorem kiv_11_228 : am_lk am_ivL 11 228 = some (2, [(1, 50, 1, [880, 883, 881, 884, 881, 78, 898]), (2, 50, 1, [880, 883, 881, 885, 881, 78, 898]), (3, 8, 1, [880, 883, 881, 886, 887, 80, 898]), (4, 11, 1, [880, 883, 881, 891, 892, 84, 898]), (5, 50, 1, [880, 883, 881, 896, 881, 78, 898]), (6, 8, 1, [880, 883, 881, 897, 887, 80, 898]), (10, 50, 0, [880, 881, 882, 78])]) := by decide +kernel
theorem kiv_11_231 : am_lk am_ivL 11 231 = some (2, [(1, 51, 1, [900, 903, 901, 904, 901, 78, 924]), (2, 5, 1, [900, 903, 901, 905, 906, 82, 924]), (3, 51, 1, [900, 903, 901, 916, 901, 78, 924]), (4, 51, 1, [900, 903, 901, 917, 901, 78, 924]), (5, 14, 1, [900, 903, 901, 918, 919, 81, 924]), (6, 51, 1, [900, 903, 901, 923, 901, 78, 924]), (10, 51, 0, [900, 901, 902, 78])]) := by decide +kernel
theorem kf_11_234 : am_lk am_fldL 11 234 = some (0, 3, 2, [9], 270) := by decide +kernel
theorem kacn_11_237 : am_lk am_acL 11 237 = none := by decide +kernel
theorem kis_11_237 : am_lk am_isL 11 237 = some (2, 92, [934, 935, 66]) := by decide +kernel
theorem kiv_11_241 : am_lk am_ivL 11 241 = some (1, [(7, 19, 0, [941, 942, 943, 67])]) := by decide +kernel
theorem knew_11_245 : am_lk am_newL 11 245 = some (1, 5, 533, 534, 79) := by decide +kernel
theorem koin_11_247 : am_lk am_oiL 11 247 = none := by decide +kernel
theorem kip_11_247 : am_lk am_ipL 11 247 = some (5, 0, 1, [1, 2], [535, 536, 79]) := by decide +kernel
theorem knew_11_250 : am_lk am_newL 11 250 = some (3, 5, 577, 578, 80) := by decide +kernel
theorem koin_11_252 : am_lk am_oiL 11 252 = none := by decide +kernel
theorem kip_11_252 : am_lk am_ipL 11 252 = some (5, 6, 1, [3, 4, 6], [579, 580, 80]) := by decide +kernel
theorem knew_11_253 : am_lk am_newL 11 253 = some (5, 5, 589, 590, 81) := by decide +kernel
theorem koin_11_255 : am_lk am_oiL 11 255 = none := by decide +kernel
theorem kip_11_255 : am_lk am_ipL 11 255 = some (5, 12, 1, [5], [591, 592, 81]) := by decide +kernel
theorem knew_11_256 : am_lk am_newL 11 256 = some (2, 5, 601, 602, 82) := by decide +kernel
theorem koin_11_258 : am_lk am_oiL 11 258 = none := by decide +kernel
theorem kip_11_258 : am_lk am_ipL 11 258 = some (5, 3, 1, [2], [603, 604, 82]) := by decide +kernel
theorem knew_11_259 : am_lk am_newL 11 259 = some (6, 5, 613, 614, 83) := by decide +kernel
theorem koin_11_261 : am_lk am_oiL 11 261 = none := by decide +kernel
theorem kip_11_261 : am_lk am_ipL 11 261 = some (5, 15, 1, [6], [615, 616, 83]) := by decide +kernel
theorem knew_11_262 : am_lk am_newL 11 262 = some (4, 5, 625, 626, 84) := by decide +kernel
theorem koin_11_264 : am_lk am_oiL 11 264 = none := by decide +kernel
theorem kip_11_264 : am_lk am_ipL 11 264 = some (5, 9, 1, [4], [627, 628, 84]) := by decide +kernel
theorem knew_11_128 : am_lk am_newL 11 128 = some (10, 5, 637, 638, 78) := by decide +kernel
theorem koin_11_265 : am_lk am_oiL 11 265 = none := by decide +kernel
theorem kip_11_265 : am_lk am_ipL 11 265 = some (5, 45, 1, [1, 2, 3, 4, 5, 6, 10], [639, 539, 78]) := by decide +kernel
theorem kinst_11_245 : am_lk am_instL 11 245 = some ([1, 2], [3, 4, 5, 6, 10], 533) := by decide +kernel
theorem kinst_11_250 : am_lk am_instL 11 250 = some ([3, 4, 6], [1, 2, 5, 10], 577) := by decide +kernel
theorem kinst_11_253 : am_lk am_instL 11 253 = some ([5], [1, 2, 3, 4, 6, 10], 589) := by decide +kernel
theorem kinst_11_256 : am_lk am_instL 11 256 = some ([2], [1, 3, 4, 5, 6, 10], 601) := by decide +kernel
theorem kinst_11_259 : am_lk am_instL 11 259 = some ([6], [1, 2, 3, 4, 5, 10], 613) := by decide +kernel
theorem kinst_11_262 : am_lk am_instL 11 262 = some ([4], [1, 2, 3, 5, 6, 10], 625) := by decide +kernel
theorem kiv_11_266 : am_lk am_ivL 11 266 = some (1, [(11, 53, 0, [744, 745, 746, 68])]) := by decide +kernel
theorem kiv_11_269 : am_lk am_ivL 11 269 = some (2, [(12, 95, 0, [757, 759, 22, 66])]) := by decide +kernel
theorem kacn_11_273 : am_lk am_acL 11 273 = none := by decide +kernel
theorem kis_11_273 : am_lk am_isL 11 273 = some (1, 189, [829, 830, 85]) := by decide +kernel
theorem kacn_11_278 : am_lk am_acL 11 278 = none := by decide +kernel
theorem kis_11_278 : am_lk am_isL 11 278 = some (2, 99, [835, 836, 66]) := by decide +kernel
theorem kld2_11_282 : am_lk am_ld2L 11 282 = some ((jI 10), 764) := by decide +kernel
theorem kacn_11_284 : am_lk am_acL 11 284 = none := by decide +kernel
theorem kis_11_284 : am_lk am_isL 11 284 = some (1, 190, [768, 769, 76]) := by decide +kernel
theorem kacn_11_290 : am_lk am_acL 11 290 = none := by decide +kernel
theorem kis_11_290 : am_lk am_isL 11 290 = some (2, 102, [771, 772, 66]) := by decide +kernel
theorem kacn_11_294 : am_lk am_acL 11 294 = none := by decide +kernel
theorem kis_11_294 : am_lk am_isL 11 294 = some (2, 192, [774, 775, 76]) := by decide +kernel
theorem koi_12_3 : am_lk am_oiL 12 3 = some 962 := by decide +kernel
theorem kf_12_9 : am_lk am_fldL 12 9 = some (1, 3, 1, [13], 963) := by decide +kernel
theorem kf_12_15 : am_lk am_fldL 12 15 = some (2, 3, 1, [13], 964) := by decide +kernel
theorem kf_12_18 : am_lk am_fldL 12 18 = some (4, 3, 1, [13], 966) := by decide +kernel
theorem kf_12_21 : am_lk am_fldL 12 21 = some (10, 3, 1, [13], 972) := by decide +kernel
theorem kf_12_24 : am_lk am_fldL 12 24 = some (11, 3, 1, [13], 973) := by decide +kernel
theorem kf_12_28 : am_lk am_fldL 12 28 = some (14, 3, 1, [13], 976) := by decide +kernel
theorem kf_12_31 : am_lk am_fldL 12 31 = some (15, 3, 1, [13], 977) := by decide +kernel
theorem kf_12_34 : am_lk am_fldL 12 34 = some (16, 3, 1, [13], 978) := by decide +kernel
theorem kf_12_37 : am_lk am_fldL 12 37 = some (19, 3, 1, [13], 981) := by decide +kernel
theorem kf_12_41 : am_lk am_fldL 12 41 = some (20, 3, 1, [13], 982) := by decide +kernel
theorem kf_12_44 : am_lk am_fldL 12 44 = some (21, 3, 1, [13], 983) := by decide +kernel
theorem kacn_12_51 : am_lk am_acL 12 51 = none := by decide +kernel
theorem kis_12_51 : am_lk am_isL 12 51 = some (3, 104, [1049, 1050, 71]) := by decide +kernel
theorem kacn_12_55 : am_lk am_acL 12 55 = none := by decide +kernel
theorem kis_12_55 : am_lk am_isL 12 55 = some (1, 105, [1046, 1047, 71]) := by decide +kernel
theorem kld2_12_59 : am_lk am_ld2L 12 59 = some ((jI 255), 1056) := by decide +kernel
theorem kf_12_61 : am_lk am_fldL 12 61 = some (6, 0, 0, [13], 968) := by decide +kernel
theorem kf_12_64 : am_lk am_fldL 12 64 = some (7, 0, 0, [13], 969) := by decide +kernel
theorem kf_12_67 : am_lk am_fldL 12 67 = some (8, 1, 0, [13], 970) := by decide +kernel
theorem kiv_12_71 : am_lk am_ivL 12 71 = some (0, [(13, 112, 0, [1065, 1067, 26, 71])]) := by decide +kernel
theorem kiv_12_75 : am_lk am_ivL 12 75 = some (0, [(31, 177, 0, [1078, 352, 353, 72])]) := by decide +kernel
theorem kiv_12_80 : am_lk am_ivL 12 80 = some (1, [(31, 178, 0, [1079, 366, 367, 72])]) := by decide +kernel
theorem kiv_12_84 : am_lk am_ivL 12 84 = some (1, [(13, 113, 0, [1080, 1082, 29, 71])]) := by decide +kernel
theorem kf_12_88 : am_lk am_fldL 12 88 = some (5, 0, 0, [13], 967) := by decide +kernel
theorem kf_12_91 : am_lk am_fldL 12 91 = some (9, 0, 0, [13], 971) := by decide +kernel
theorem kiv_12_94 : am_lk am_ivL 12 94 = some (0, [(13, 118, 0, [1096, 1098, 33, 71])]) := by decide +kernel
theorem kiv_12_97 : am_lk am_ivL 12 97 = some (1, [(13, 117, 0, [1100, 1102, 34, 71])]) := by decide +kernel
theorem kiv_12_100 : am_lk am_ivL 12 100 = some (0, [(13, 120, 0, [1088, 1090, 31, 71])]) := by decide +kernel
theorem kldc_12_103 : am_lk am_ldcL 12 103 = some (.ref 18, 1104) := by rfl
theorem kiv_12_105 : am_lk am_ivL 12 105 = some (1, [(13, 116, 0, [1105, 1107, 35, 71])]) := by decide +kernel
theorem kldc_12_109 : am_lk am_ldcL 12 109 = some (.ref 19, 1109) := by rfl
theorem kiv_12_111 : am_lk am_ivL 12 111 = some (0, [(13, 115, 0, [1084, 1086, 30, 71])]) := by decide +kernel
theorem kiv_12_114 : am_lk am_ivL 12 114 = some (0, [(13, 119, 0, [1092, 1094, 32, 71])]) := by decide +kernel
theorem kiv_12_117 : am_lk am_ivL 12 117 = some (1, [(13, 114, 0, [1074, 1076, 28, 71])]) := by decide +kernel
theorem kldc_12_121 : am_lk am_ldcL 12 121 = some (.ref 22, 1120) := by rfl
theorem kldc_12_123 : am_lk am_ldcL 12 123 = some (.ref 23, 1121) := by rfl
theorem kiv_12_125 : am_lk am_ivL 12 125 = some (2, [(13, 122, 0, [1112, 1114, 36, 71])]) := by decide +kernel
theorem kldc_12_129 : am_lk am_ldcL 12 129 = some (.ref 24, 1122) := by rfl
theorem kldc_12_131 : am_lk am_ldcL 12 131 = some (.ref 17, 1069) := by rfl
theorem kiv_12_133 : am_lk am_ivL 12 133 = some (2, [(13, 121, 0, [1070, 1072, 27, 71])]) := by decide +kernel
theorem kldc_12_136 : am_lk am_ldcL 12 136 = some (.ref 20, 1110) := by rfl
theorem kldc_12_138 : am_lk am_ldcL 12 138 = some (.ref 21, 1111) := by rfl
theorem kiv_12_140 : am_lk am_ivL 12 140 = some (0, [(13, 123, 0, [1116, 1118, 37, 71])]) := by decide +kernel
theorem kiv_12_143 : am_lk am_ivL 12 143 = some (0, [(13, 124, 0, [1061, 1063, 25, 71])]) := by decide +kernel
theorem kf_12_146 : am_lk am_fldL 12 146 = some (12, 0, 0, [13], 974) := by decide +kernel
theorem kf_12_149 : am_lk am_fldL 12 149 = some (13, 1, 0, [13], 975) := by decide +kernel
theorem kiv_12_152 : am_lk am_ivL 12 152 = some (2, [(13, 126, 0, [1135, 1137, 40, 71])]) := by decide +kernel
theorem kiv_12_156 : am_lk am_ivL 12 156 = some (5, [(13, 127, 0, [1131, 1133, 39, 71])]) := by decide +kernel
theorem kiv_12_160 : am_lk am_ivL 12 160 = some (2, [(13, 128, 0, [1127, 1129, 38, 71])]) := by decide +kernel
theorem kiv_12_163 : am_lk am_ivL 12 163 = some (1, [(13, 106, 0, [1147, 1149, 41, 71])]) := by decide +kernel
theorem kiv_12_166 : am_lk am_ivL 12 166 = some (1, [(13, 132, 0, [1155, 1157, 42, 71])]) := by decide +kernel
theorem kiv_12_170 : am_lk am_ivL 12 170 = some (1, [(13, 133, 0, [1163, 1165, 44, 71])]) := by decide +kernel
theorem kiv_12_173 : am_lk am_ivL 12 173 = some (2, [(13, 134, 0, [1159, 1161, 43, 71])]) := by decide +kernel
theorem kiv_12_177 : am_lk am_ivL 12 177 = some (1, [(13, 136, 0, [1183, 1185, 48, 71])]) := by decide +kernel
theorem kiv_12_180 : am_lk am_ivL 12 180 = some (2, [(13, 137, 0, [1179, 1181, 47, 71])]) := by decide +kernel
theorem kiv_12_184 : am_lk am_ivL 12 184 = some (0, [(13, 139, 0, [1171, 1173, 45, 71])]) := by decide +kernel
theorem kiv_12_187 : am_lk am_ivL 12 187 = some (1, [(13, 138, 0, [1175, 1177, 46, 71])]) := by decide +kernel
theorem kiv_12_190 : am_lk am_ivL 12 190 = some (1, [(13, 108, 0, [1195, 1197, 49, 71])]) := by decide +kernel
theorem kiv_12_193 : am_lk am_ivL 12 193 = some (1, [(13, 109, 0, [1199, 1201, 50, 71])]) := by decide +kernel
theorem kf_12_196 : am_lk am_fldL 12 196 = some (17, 2, 0, [13], 979) := by decide +kernel
theorem kf_12_200 : am_lk am_fldL 12 200 = some (18, 2, 0, [13], 980) := by decide +kernel
theorem kiv_12_203 : am_lk am_ivL 12 203 = some (3, [(13, 143, 0, [1212, 1214, 52, 71])]) := by decide +kernel
theorem kld2_12_207 : am_lk am_ld2L 12 207 = some ((jI 10), 1219) := by decide +kernel
theorem kacn_12_209 : am_lk am_acL 12 209 = none := by decide +kernel
theorem kis_12_209 : am_lk am_isL 12 209 = some (2, 146, [1223, 1224, 71]) := by decide +kernel
theorem kld2_12_213 : am_lk am_ld2L 12 213 = some ((jI (-9223372036854775808)), 1207) := by decide +kernel
theorem kiv_12_215 : am_lk am_ivL 12 215 = some (1, [(13, 144, 0, [1208, 1210, 51, 71])]) := by decide +kernel
theorem kacn_12_219 : am_lk am_acL 12 219 = none := by decide +kernel
theorem kis_12_219 : am_lk am_isL 12 219 = some (1, 145, [1216, 1217, 71]) := by decide +kernel
theorem kacn_12_222 : am_lk am_acL 12 222 = none := by decide +kernel
theorem kis_12_222 : am_lk am_isL 12 222 = some (3, 147, [1220, 1221, 71]) := by decide +kernel
theorem kiv_12_226 : am_lk am_ivL 12 226 = some (0, [(13, 149, 0, [1230, 1232, 53, 71])]) := by decide +kernel
theorem kld2_12_229 : am_lk am_ld2L 12 229 = some ((jI 100), 1234) := by decide +kernel
theorem kiv_12_231 : am_lk am_ivL 12 231 = some (0, [(13, 150, 0, [1235, 1237, 54, 71])]) := by decide +kernel
theorem kiv_12_234 : am_lk am_ivL 12 234 = some (0, [(13, 107, 0, [1243, 1245, 55, 71])]) := by decide +kernel
theorem kiv_12_237 : am_lk am_ivL 12 237 = some (0, [(13, 156, 0, [1274, 1260, 1261, 71])]) := by decide +kernel
theorem kacn_12_240 : am_lk am_acL 12 240 = none := by decide +kernel
theorem kis_12_240 : am_lk am_isL 12 240 = some (1, 157, [1267, 1268, 71]) := by decide +kernel
theorem kiv_12_243 : am_lk am_ivL 12 243 = some (2, [(13, 158, 0, [1270, 1272, 56, 71])]) := by decide +kernel
theorem kf_12_246 : am_lk am_fldL 12 246 = some (22, 0, 0, [13], 984) := by decide +kernel
theorem kiv_12_249 : am_lk am_ivL 12 249 = some (1, [(13, 162, 0, [1294, 1296, 58, 71])]) := by decide +kernel
theorem kf_12_252 : am_lk am_fldL 12 252 = some (24, 0, 0, [13], 986) := by decide +kernel
theorem kf_12_255 : am_lk am_fldL 12 255 = some (23, 0, 0, [13], 985) := by decide +kernel
theorem kacn_12_258 : am_lk am_acL 12 258 = none := by decide +kernel
theorem kis_12_258 : am_lk am_isL 12 258 = some (2, 163, [1291, 1292, 71]) := by decide +kernel
theorem kiv_12_261 : am_lk am_ivL 12 261 = some (1, [(13, 164, 0, [1298, 1300, 59, 71])]) := by decide +kernel
theorem kiv_12_264 : am_lk am_ivL 12 264 = some (1, [(13, 165, 0, [1287, 1289, 57, 71])]) := by decide +kernel
theorem kf_12_267 : am_lk am_fldL 12 267 = some (25, 0, 0, [13], 987) := by decide +kernel
theorem kiv_12_270 : am_lk am_ivL 12 270 = some (1, [(13, 166, 0, [1310, 1312, 62, 71])]) := by decide +kernel
theorem kiv_12_273 : am_lk am_ivL 12 273 = some (1, [(13, 167, 0, [1306, 1308, 61, 71])]) := by decide +kernel
theorem kiv_12_276 : am_lk am_ivL 12 276 = some (1, [(13, 168, 0, [1302, 1304, 60, 71])]) := by decide +kernel
theorem kiv_12_279 : am_lk am_ivL 12 279 = some (1, [(13, 169, 0, [1318, 1320, 64, 71])]) := by decide +kernel
theorem kiv_12_282 : am_lk am_ivL 12 282 = some (1, [(13, 170, 0, [1314, 1316, 63, 71])]) := by decide +kernel
theorem kf_12_285 : am_lk am_fldL 12 285 = some (3, 1, 0, [13], 965) := by decide +kernel
theorem kfn_20_9 : am_lk am_fldL 20 9 = none := by decide +kernel
theorem ksf_20_9 : am_lk am_sfL 20 9 = some (0, 1362) := by decide +kernel
theorem kiv_20_335 : am_lk am_ivL 20 335 = some (0, [(31, 181, 0, [355, 356, 357, 72])]) := by decide +kernel
theorem kiv_20_492 : am_lk am_ivL 20 492 = some (0, [(31, 182, 0, [369, 370, 371, 72])]) := by decide +kernel
theorem kacn_20_495 : am_lk am_acL 20 495 = none := by decide +kernel
theorem kis_20_495 : am_lk am_isL 20 495 = some (2, 184, [373, 374, 73]) := by decide +kernel
theorem kiv_20_633 : am_lk am_ivL 20 633 = some (2, [(31, 180, 0, [439, 440, 441, 72])]) := by decide +kernel
theorem kiv_20_505 : am_lk am_ivL 20 505 = some (0, [(31, 177, 0, [443, 352, 353, 72])]) := by decide +kernel
theorem kacn_20_637 : am_lk am_acL 20 637 = none := by decide +kernel
theorem kis_20_637 : am_lk am_isL 20 637 = some (4, 186, [444, 445, 73]) := by decide +kernel
theorem kgst_20_38 : am_lk am_gstL 20 38 = some (0, 359) := by decide +kernel
theorem kfn_20_15 : am_lk am_fldL 20 15 = none := by decide +kernel
theorem ksf_20_15 : am_lk am_sfL 20 15 = some (1, 1363) := by decide +kernel
theorem kgst_20_1053 : am_lk am_gstL 20 1053 = some (1, 379) := by decide +kernel
theorem kacn_20_1059 : am_lk am_acL 20 1059 = none := by decide +kernel
theorem kis_20_1059 : am_lk am_isL 20 1059 = some (3, 188, [381, 382, 74]) := by decide +kernel
theorem kacn_21_9 : am_lk am_acL 21 9 = none := by decide +kernel
theorem kis_21_9 : am_lk am_isL 21 9 = some (2, 183, [376, 377, 72]) := by decide +kernel
theorem kacn_21_88 : am_lk am_acL 21 88 = none := by decide +kernel
theorem kis_21_88 : am_lk am_isL 21 88 = some (1, 185, [447, 448, 73]) := by decide +kernel
theorem kacn_21_92 : am_lk am_acL 21 92 = none := by decide +kernel
theorem kis_21_92 : am_lk am_isL 21 92 = some (2, 191, [450, 404, 76]) := by decide +kernel
theorem kacn_21_38 : am_lk am_acL 21 38 = none := by decide +kernel
theorem kis_21_38 : am_lk am_isL 21 38 = some (2, 193, [451, 452, 76]) := by decide +kernel
theorem kacn_21_95 : am_lk am_acL 21 95 = none := by decide +kernel
theorem kis_21_95 : am_lk am_isL 21 95 = some (4, 187, [454, 455, 73]) := by decide +kernel
theorem kldw_26_265 : am_lk am_ldwL 26 265 = some ((iI 1431655765), 832) := by decide +kernel
theorem kldw_26_266 : am_lk am_ldwL 26 266 = some ((iI 858993459), 833) := by decide +kernel
theorem kldw_26_267 : am_lk am_ldwL 26 267 = some ((iI 252645135), 834) := by decide +kernel
theorem knew_30_7 : am_lk am_newL 30 7 = some (12, 9, 87, 88, 66) := by decide +kernel
theorem koin_30_9 : am_lk am_oiL 30 9 = none := by decide +kernel
theorem kip_30_9 : am_lk am_ipL 30 9 = some (0, 62, 1, [12], [89, 90, 66]) := by decide +kernel
theorem knew_30_10 : am_lk am_newL 30 10 = some (13, 26, 957, 958, 71) := by decide +kernel
theorem koin_30_12 : am_lk am_oiL 30 12 = none := by decide +kernel
theorem kip_30_12 : am_lk am_ipL 30 12 = some (0, 103, 1, [13], [959, 960, 71]) := by decide +kernel
theorem kiv_30_13 : am_lk am_ivL 30 13 = some (2, [(12, 63, 0, [310, 311, 312, 66])]) := by decide +kernel
theorem kiv_30_17 : am_lk am_ivL 30 17 = some (2, [(13, 110, 0, [1042, 1043, 1044, 71])]) := by decide +kernel
theorem kld2_30_18 : am_lk am_ld2L 30 18 = some ((jI 4294967295), 1342) := by decide +kernel
theorem kiv_30_20 : am_lk am_ivL 30 20 = some (2, [(12, 64, 0, [317, 318, 319, 66])]) := by decide +kernel
theorem kiv_30_24 : am_lk am_ivL 30 24 = some (2, [(13, 111, 0, [1052, 1053, 1054, 71])]) := by decide +kernel
theorem kiv_30_25 : am_lk am_ivL 30 25 = some (0, [(12, 65, 0, [321, 322, 323, 66])]) := by decide +kernel
theorem kiv_30_29 : am_lk am_ivL 30 29 = some (0, [(13, 125, 0, [1057, 1058, 1059, 71])]) := by decide +kernel
theorem kiv_30_30 : am_lk am_ivL 30 30 = some (1, [(12, 66, 0, [518, 519, 520, 66])]) := by decide +kernel
theorem kiv_30_34 : am_lk am_ivL 30 34 = some (1, [(13, 129, 0, [1123, 1124, 1125, 71])]) := by decide +kernel
theorem kiv_30_35 : am_lk am_ivL 30 35 = some (3, [(12, 67, 0, [526, 527, 528, 66])]) := by decide +kernel
theorem kiv_30_39 : am_lk am_ivL 30 39 = some (3, [(13, 130, 0, [1139, 1140, 1141, 71])]) := by decide +kernel
theorem kiv_30_40 : am_lk am_ivL 30 40 = some (2, [(12, 68, 0, [646, 647, 648, 66])]) := by decide +kernel
theorem kiv_30_43 : am_lk am_ivL 30 43 = some (2, [(13, 131, 0, [1143, 1144, 1145, 71])]) := by decide +kernel
theorem kiv_30_44 : am_lk am_ivL 30 44 = some (2, [(12, 69, 0, [654, 655, 656, 66])]) := by decide +kernel
theorem kiv_30_47 : am_lk am_ivL 30 47 = some (2, [(13, 135, 0, [1151, 1152, 1153, 71])]) := by decide +kernel
theorem kiv_30_48 : am_lk am_ivL 30 48 = some (1, [(12, 70, 0, [693, 694, 695, 66])]) := by decide +kernel
theorem kiv_30_51 : am_lk am_ivL 30 51 = some (1, [(13, 140, 0, [1167, 1168, 1169, 71])]) := by decide +kernel
theorem kiv_30_52 : am_lk am_ivL 30 52 = some (1, [(12, 71, 0, [732, 733, 734, 66])]) := by decide +kernel
theorem kiv_30_55 : am_lk am_ivL 30 55 = some (1, [(13, 141, 0, [1187, 1188, 1189, 71])]) := by decide +kernel
theorem kiv_30_56 : am_lk am_ivL 30 56 = some (2, [(12, 72, 0, [736, 737, 738, 66])]) := by decide +kernel
theorem kiv_30_59 : am_lk am_ivL 30 59 = some (2, [(13, 142, 0, [1191, 1192, 1193, 71])]) := by decide +kernel
theorem kiv_30_60 : am_lk am_ivL 30 60 = some (3, [(12, 73, 0, [748, 749, 750, 66])]) := by decide +kernel
theorem kiv_30_64 : am_lk am_ivL 30 64 = some (3, [(13, 148, 0, [1203, 1204, 1205, 71])]) := by decide +kernel
theorem kiv_30_65 : am_lk am_ivL 30 65 = some (2, [(12, 74, 0, [777, 778, 779, 66])]) := by decide +kernel
theorem kiv_30_68 : am_lk am_ivL 30 68 = some (2, [(13, 151, 0, [1226, 1227, 1228, 71])]) := by decide +kernel
theorem kiv_30_69 : am_lk am_ivL 30 69 = some (2, [(12, 75, 0, [786, 787, 788, 66])]) := by decide +kernel
theorem kiv_30_72 : am_lk am_ivL 30 72 = some (2, [(13, 152, 0, [1239, 1240, 1241, 71])]) := by decide +kernel
theorem kiv_30_73 : am_lk am_ivL 30 73 = some (2, [(12, 76, 0, [801, 802, 803, 66])]) := by decide +kernel
theorem kiv_30_76 : am_lk am_ivL 30 76 = some (2, [(13, 153, 0, [1247, 1248, 1249, 71])]) := by decide +kernel
theorem kiv_30_77 : am_lk am_ivL 30 77 = some (1, [(12, 77, 0, [805, 806, 807, 66])]) := by decide +kernel
theorem kiv_30_80 : am_lk am_ivL 30 80 = some (1, [(13, 154, 0, [1251, 1252, 1253, 71])]) := by decide +kernel
theorem kiv_30_81 : am_lk am_ivL 30 81 = some (3, [(12, 78, 0, [809, 810, 811, 66])]) := by decide +kernel
theorem kiv_30_84 : am_lk am_ivL 30 84 = some (3, [(13, 155, 0, [1255, 1256, 1257, 71])]) := by decide +kernel
theorem kiv_30_85 : am_lk am_ivL 30 85 = some (0, [(12, 79, 0, [813, 814, 815, 66])]) := by decide +kernel
theorem kiv_30_88 : am_lk am_ivL 30 88 = some (0, [(13, 156, 0, [1259, 1260, 1261, 71])]) := by decide +kernel
theorem kiv_30_89 : am_lk am_ivL 30 89 = some (0, [(12, 80, 0, [821, 822, 823, 66])]) := by decide +kernel
theorem kiv_30_92 : am_lk am_ivL 30 92 = some (0, [(13, 159, 0, [1263, 1264, 1265, 71])]) := by decide +kernel
theorem kiv_30_93 : am_lk am_ivL 30 93 = some (2, [(12, 81, 0, [838, 839, 840, 66])]) := by decide +kernel
theorem kiv_30_96 : am_lk am_ivL 30 96 = some (2, [(13, 160, 0, [1275, 1276, 1277, 71])]) := by decide +kernel
theorem kiv_30_97 : am_lk am_ivL 30 97 = some (1, [(12, 82, 0, [842, 843, 844, 66])]) := by decide +kernel
theorem kiv_30_100 : am_lk am_ivL 30 100 = some (1, [(13, 161, 0, [1279, 1280, 1281, 71])]) := by decide +kernel
theorem kiv_30_101 : am_lk am_ivL 30 101 = some (3, [(12, 83, 0, [851, 852, 853, 66])]) := by decide +kernel
theorem kiv_30_104 : am_lk am_ivL 30 104 = some (3, [(13, 171, 0, [1283, 1284, 1285, 71])]) := by decide +kernel
theorem kiv_30_105 : am_lk am_ivL 30 105 = some (1, [(12, 84, 0, [926, 927, 928, 66])]) := by decide +kernel
theorem kiv_30_108 : am_lk am_ivL 30 108 = some (1, [(13, 172, 0, [1322, 1323, 1324, 71])]) := by decide +kernel
theorem kiv_30_109 : am_lk am_ivL 30 109 = some (2, [(12, 85, 0, [930, 931, 932, 66])]) := by decide +kernel
theorem kiv_30_112 : am_lk am_ivL 30 112 = some (2, [(13, 173, 0, [1326, 1327, 1328, 71])]) := by decide +kernel
theorem kiv_30_113 : am_lk am_ivL 30 113 = some (0, [(12, 86, 0, [937, 938, 939, 66])]) := by decide +kernel
theorem kiv_30_116 : am_lk am_ivL 30 116 = some (0, [(13, 174, 0, [1330, 1331, 1332, 71])]) := by decide +kernel
theorem kiv_30_117 : am_lk am_ivL 30 117 = some (0, [(12, 87, 0, [949, 950, 951, 66])]) := by decide +kernel
theorem kiv_30_120 : am_lk am_ivL 30 120 = some (0, [(13, 175, 0, [1334, 1335, 1336, 71])]) := by decide +kernel
theorem kiv_30_121 : am_lk am_ivL 30 121 = some (1, [(12, 88, 0, [953, 954, 955, 66])]) := by decide +kernel
theorem kiv_30_124 : am_lk am_ivL 30 124 = some (1, [(13, 176, 0, [1338, 1339, 1340, 71])]) := by decide +kernel
