/-! rows of the methods, their names -/
theorem g_and {A B : Prop} (h : A) : (A ∧ B) = B := by simp [h]
theorem g_and2 {A B C : Prop} (h : A) : ((A ∧ B) ∧ C) = (B ∧ C) := by simp [h]
theorem isO_dec {a c : Nat} (h : decide (SH[a]? = some (c, aN c)) = true) : isO a c := by simpa [isO] using h
def m0 : aMe := (0, yX0_init, cX0_init, 1, none, 4, 0, false)
theorem m0_at : mtab[0]? = some m0 := rfl
def m1 : aMe := (0, yX0_run, cX0_run, 6, (some .int), 5, 3, false)
theorem m1_at : mtab[1]? = some m1 := rfl
def m2 : aMe := (0, yX0_result, cX0_result, 1, (some (.object "BinderPress$Row")), 0, 0, false)
theorem m2_at : mtab[2]? = some m2 := rfl
def m3 : aMe := (0, yX0_isTooBig, cX0_isTooBig, 1, (some .boolean), 1, 0, false)
theorem m3_at : mtab[3]? = some m3 := rfl
def m4 : aMe := (0, yX0_hasStep, cX0_hasStep, 1, (some .boolean), 2, 0, false)
theorem m4_at : mtab[4]? = some m4 := rfl
def m5 : aMe := (0, yX0_findStep, cX0_findStep, 4, (some .int), 1, 0, false)
theorem m5_at : mtab[5]? = some m5 := rfl
def m6 : aMe := (0, yX0_takeStep, cX0_takeStep, 7, none, 4, 1, false)
theorem m6_at : mtab[6]? = some m6 := rfl
def m7 : aMe := (0, yX0_endOf, cX0_endOf, 4, (some .int), 1, 1, false)
theorem m7_at : mtab[7]? = some m7 := rfl
def m8 : aMe := (1, yX1_init, cX1_init, 1, none, 3, 0, false)
theorem m8_at : mtab[8]? = some m8 := rfl
def m9 : aMe := (1, yX1_count, cX1_count, 1, (some .int), 0, 0, false)
theorem m9_at : mtab[9]? = some m9 := rfl
def m10 : aMe := (1, yX1_forget, cX1_forget, 1, none, 0, 0, false)
theorem m10_at : mtab[10]? = some m10 := rfl
def m11 : aMe := (1, yX1_remember, cX1_remember, 3, none, 4, 2, false)
theorem m11_at : mtab[11]? = some m11 := rfl
def m12 : aMe := (1, yX1_latestShelf, cX1_latestShelf, 1, (some .int), 0, 0, false)
theorem m12_at : mtab[12]? = some m12 := rfl
def m13 : aMe := (1, yX1_giveBack, cX1_giveBack, 2, none, 4, 1, false)
theorem m13_at : mtab[13]? = some m13 := rfl
def m14 : aMe := (1, yX1_loseOldest, cX1_loseOldest, 3, none, 0, 0, false)
theorem m14_at : mtab[14]? = some m14 := rfl
def m15 : aMe := (2, yX2_init, cX2_init, 1, none, 2, 0, false)
theorem m15_at : mtab[15]? = some m15 := rfl
def m16 : aMe := (2, yX2_place, cX2_place, 1, (some .int), 0, 0, false)
theorem m16_at : mtab[16]? = some m16 := rfl
def m17 : aMe := (2, yX2_read, cX2_read, 5, (some .int), 5, 2, false)
theorem m17_at : mtab[17]? = some m17 := rfl
def m18 : aMe := (2, yX2_readLetter, cX2_readLetter, 4, (some .int), 4, 2, false)
theorem m18_at : mtab[18]? = some m18 := rfl
def m19 : aMe := (2, yX2_readBoundName, cX2_readBoundName, 3, (some .int), 1, 2, false)
theorem m19_at : mtab[19]? = some m19 := rfl
def m20 : aMe := (2, yX2_readDot, cX2_readDot, 3, (some .int), 2, 2, false)
theorem m20_at : mtab[20]? = some m20 := rfl
def m21 : aMe := (2, yX2_readOpening, cX2_readOpening, 2, (some .int), 3, 1, false)
theorem m21_at : mtab[21]? = some m21 := rfl
def m22 : aMe := (2, yX2_readClosing, cX2_readClosing, 3, (some .int), 2, 1, false)
theorem m22_at : mtab[22]? = some m22 := rfl
def m23 : aMe := (2, yX2_addCell, cX2_addCell, 3, (some .int), 3, 2, false)
theorem m23_at : mtab[23]? = some m23 := rfl
def m24 : aMe := (2, yX2_joins, cX2_joins, 5, (some .boolean), 2, 2, false)
theorem m24_at : mtab[24]? = some m24 := rfl
def m25 : aMe := (2, yX2_hasSome, cX2_hasSome, 2, (some .boolean), 1, 1, false)
theorem m25_at : mtab[25]? = some m25 := rfl
def m26 : aMe := (2, yX2_open, cX2_open, 3, none, 1, 2, false)
theorem m26_at : mtab[26]? = some m26 := rfl
def m27 : aMe := (3, yX3_init, cX3_init, 2, none, 1, 1, false)
theorem m27_at : mtab[27]? = some m27 := rfl
def m28 : aMe := (3, yX3_count, cX3_count, 1, (some .int), 0, 0, false)
theorem m28_at : mtab[28]? = some m28 := rfl
def m29 : aMe := (3, yX3_clear, cX3_clear, 1, none, 0, 0, false)
theorem m29_at : mtab[29]? = some m29 := rfl
def m30 : aMe := (3, yX3_at, cX3_at, 2, (some .int), 0, 1, false)
theorem m30_at : mtab[30]? = some m30 := rfl
def m31 : aMe := (3, yX3_atOr, cX3_atOr, 3, (some .int), 0, 2, false)
theorem m31_at : mtab[31]? = some m31 := rfl
def m32 : aMe := (3, yX3_last, cX3_last, 1, (some .int), 0, 0, false)
theorem m32_at : mtab[32]? = some m32 := rfl
def m33 : aMe := (3, yX3_set, cX3_set, 3, none, 0, 2, false)
theorem m33_at : mtab[33]? = some m33 := rfl
def m34 : aMe := (3, yX3_add, cX3_add, 2, none, 0, 1, false)
theorem m34_at : mtab[34]? = some m34 := rfl
def m35 : aMe := (3, yX3_pop, cX3_pop, 2, (some .int), 1, 0, false)
theorem m35_at : mtab[35]? = some m35 := rfl
def m36 : aMe := (3, yX3_insert, cX3_insert, 4, none, 0, 2, false)
theorem m36_at : mtab[36]? = some m36 := rfl
def m37 : aMe := (3, yX3_fill, cX3_fill, 4, none, 1, 2, false)
theorem m37_at : mtab[37]? = some m37 := rfl
def m38 : aMe := (3, yX3_addAll, cX3_addAll, 2, none, 2, 1, false)
theorem m38_at : mtab[38]? = some m38 := rfl
def m39 : aMe := (3, yX3_addPart, cX3_addPart, 6, none, 1, 3, false)
theorem m39_at : mtab[39]? = some m39 := rfl
def m40 : aMe := (3, yX3_become, cX3_become, 2, none, 3, 1, false)
theorem m40_at : mtab[40]? = some m40 := rfl
def m41 : aMe := (3, yX3_isLike, cX3_isLike, 3, (some .boolean), 1, 1, false)
theorem m41_at : mtab[41]? = some m41 := rfl
def m42 : aMe := (3, yX3_howOften, cX3_howOften, 4, (some .int), 0, 1, false)
theorem m42_at : mtab[42]? = some m42 := rfl
def m43 : aMe := (4, yX4_init, cX4_init, 1, none, 3, 0, false)
theorem m43_at : mtab[43]? = some m43 := rfl
def m44 : aMe := (4, yX4_written, cX4_written, 1, (some (.object "BinderPress$Row")), 0, 0, false)
theorem m44_at : mtab[44]? = some m44 := rfl
def m45 : aMe := (4, yX4_write, cX4_write, 4, none, 3, 1, false)
theorem m45_at : mtab[45]? = some m45 := rfl
def m46 : aMe := (4, yX4_writeAt, cX4_writeAt, 5, none, 2, 2, false)
theorem m46_at : mtab[46]? = some m46 := rfl
def m47 : aMe := (4, yX4_openPart, cX4_openPart, 3, none, 1, 2, false)
theorem m47_at : mtab[47]? = some m47 := rfl
def m48 : aMe := (5, yX5_init, cX5_init, 1, none, 3, 0, false)
theorem m48_at : mtab[48]? = some m48 := rfl
def m49 : aMe := (5, yX5_written, cX5_written, 1, (some (.object "BinderPress$Row")), 0, 0, false)
theorem m49_at : mtab[49]? = some m49 := rfl
def m50 : aMe := (5, yX5_find, cX5_find, 3, (some .boolean), 5, 1, false)
theorem m50_at : mtab[50]? = some m50 := rfl
def m51 : aMe := (5, yX5_write, cX5_write, 4, (some .boolean), 6, 1, false)
theorem m51_at : mtab[51]? = some m51 := rfl
def m52 : aMe := (5, yX5_writeAt, cX5_writeAt, 3, none, 2, 1, false)
theorem m52_at : mtab[52]? = some m52 := rfl
def m53 : aMe := (5, yX5_letterOf, cX5_letterOf, 2, (some .int), 1, 1, false)
theorem m53_at : mtab[53]? = some m53 := rfl
def m54 : aMe := (5, yX5_giveNamesKinds, cX5_giveNamesKinds, 4, none, 4, 1, false)
theorem m54_at : mtab[54]? = some m54 := rfl
def m55 : aMe := (5, yX5_nameKind, cX5_nameKind, 5, (some .int), 3, 2, false)
theorem m55_at : mtab[55]? = some m55 := rfl
def m56 : aMe := (5, yX5_giveKind, cX5_giveKind, 5, none, 4, 2, false)
theorem m56_at : mtab[56]? = some m56 := rfl
def m57 : aMe := (5, yX5_signKind, cX5_signKind, 6, (some .int), 3, 1, false)
theorem m57_at : mtab[57]? = some m57 := rfl
def m58 : aMe := (5, yX5_unknown, cX5_unknown, 1, (some .int), 2, 0, false)
theorem m58_at : mtab[58]? = some m58 := rfl
def m59 : aMe := (5, yX5_arrow, cX5_arrow, 3, (some .int), 1, 2, false)
theorem m59_at : mtab[59]? = some m59 := rfl
def m60 : aMe := (5, yX5_isUnknown, cX5_isUnknown, 2, (some .boolean), 1, 1, false)
theorem m60_at : mtab[60]? = some m60 := rfl
def m61 : aMe := (5, yX5_meant, cX5_meant, 4, (some .int), 1, 1, false)
theorem m61_at : mtab[61]? = some m61 := rfl
def m62 : aMe := (5, yX5_makeOne, cX5_makeOne, 6, none, 2, 2, false)
theorem m62_at : mtab[62]? = some m62 := rfl
def m63 : aMe := (5, yX5_hasNoneWithinItself, cX5_hasNoneWithinItself, 2, (some .boolean), 3, 0, false)
theorem m63_at : mtab[63]? = some m63 := rfl
def m64 : aMe := (5, yX5_isSoundFrom, cX5_isSoundFrom, 4, (some .boolean), 2, 1, false)
theorem m64_at : mtab[64]? = some m64 := rfl
def m65 : aMe := (5, yX5_enters, cX5_enters, 3, (some .boolean), 1, 2, false)
theorem m65_at : mtab[65]? = some m65 := rfl
def m66 : aMe := (6, yX6_init, cX6_init, 2, none, 2, 1, false)
theorem m66_at : mtab[66]? = some m66 := rfl
def m67 : aMe := (6, yX6_measure, cX6_measure, 4, none, 2, 1, false)
theorem m67_at : mtab[67]? = some m67 := rfl
def m68 : aMe := (6, yX6_end, cX6_end, 2, (some .int), 1, 1, false)
theorem m68_at : mtab[68]? = some m68 := rfl
def m69 : aMe := (6, yX6_freeNames, cX6_freeNames, 3, (some .int), 3, 1, false)
theorem m69_at : mtab[69]? = some m69 := rfl
def m70 : aMe := (6, yX6_freeAt, cX6_freeAt, 3, (some .int), 2, 2, false)
theorem m70_at : mtab[70]? = some m70 := rfl
def m71 : aMe := (6, yX6_longestRow, cX6_longestRow, 4, (some .int), 3, 1, false)
theorem m71_at : mtab[71]? = some m71 := rfl
def m72 : aMe := (7, yX7_init, cX7_init, 1, none, 3, 0, false)
theorem m72_at : mtab[72]? = some m72 := rfl
def m73 : aMe := (7, yX7_press, cX7_press, 4, none, 5, 2, false)
theorem m73_at : mtab[73]? = some m73 := rfl
def m74 : aMe := (7, yX7_takeFrom, cX7_takeFrom, 3, none, 4, 2, false)
theorem m74_at : mtab[74]? = some m74 := rfl
def m75 : aMe := (7, yX7_takeBinder, cX7_takeBinder, 3, none, 4, 2, false)
theorem m75_at : mtab[75]? = some m75 := rfl
def m76 : aMe := (7, yX7_takePart, cX7_takePart, 6, none, 3, 3, false)
theorem m76_at : mtab[76]? = some m76 := rfl
def m77 : aMe := (7, yX7_takeAt, cX7_takeAt, 8, none, 2, 3, false)
theorem m77_at : mtab[77]? = some m77 := rfl
def m78 : aMe := (7, yX7_markHolders, cX7_markHolders, 5, none, 2, 2, false)
theorem m78_at : mtab[78]? = some m78 := rfl
def m79 : aMe := (8, yX8_init, cX8_init, 1, none, 3, 0, false)
theorem m79_at : mtab[79]? = some m79 := rfl
def m80 : aMe := (8, yX8_load, cX8_load, 3, none, 3, 1, false)
theorem m80_at : mtab[80]? = some m80 := rfl
def m81 : aMe := (8, yX8_takeStep, cX8_takeStep, 8, none, 3, 2, false)
theorem m81_at : mtab[81]? = some m81 := rfl
def m82 : aMe := (8, yX8_add, cX8_add, 4, (some .int), 1, 3, false)
theorem m82_at : mtab[82]? = some m82 := rfl
def m83 : aMe := (8, yX8_replace, cX8_replace, 4, none, 1, 3, false)
theorem m83_at : mtab[83]? = some m83 := rfl
def m84 : aMe := (8, yX8_writeOut, cX8_writeOut, 5, none, 2, 1, false)
theorem m84_at : mtab[84]? = some m84 := rfl
def m85 : aMe := (8, yX8_follow, cX8_follow, 4, (some .int), 1, 1, false)
theorem m85_at : mtab[85]? = some m85 := rfl
def m86 : aMe := (9, yX9_init, cX9_init, 1, none, 5, 0, false)
theorem m86_at : mtab[86]? = some m86 := rfl
def m87 : aMe := (9, yX9_feed, cX9_feed, 2, (some .int), 1, 1, false)
theorem m87_at : mtab[87]? = some m87 := rfl
def m88 : aMe := (9, yX9_term, cX9_term, 3, (some .int), 6, 1, false)
theorem m88_at : mtab[88]? = some m88 := rfl
def m89 : aMe := (9, yX9_fault, cX9_fault, 1, (some .int), 0, 0, false)
theorem m89_at : mtab[89]? = some m89 := rfl
def m90 : aMe := (9, yX9_compile, cX9_compile, 2, (some .int), 6, 1, false)
theorem m90_at : mtab[90]? = some m90 := rfl
def m91 : aMe := (9, yX9_takeOut, cX9_takeOut, 3, (some .int), 6, 2, false)
theorem m91_at : mtab[91]? = some m91 := rfl
def m92 : aMe := (9, yX9_put, cX9_put, 4, (some .int), 6, 3, false)
theorem m92_at : mtab[92]? = some m92 := rfl
def m93 : aMe := (9, yX9_putIn, cX9_putIn, 4, (some .int), 6, 3, false)
theorem m93_at : mtab[93]? = some m93 := rfl
def m94 : aMe := (9, yX9_work, cX9_work, 6, (some .int), 6, 3, false)
theorem m94_at : mtab[94]? = some m94 := rfl
def m95 : aMe := (9, yX9_drop, cX9_drop, 3, (some .int), 6, 1, false)
theorem m95_at : mtab[95]? = some m95 := rfl
def m96 : aMe := (9, yX9_drift, cX9_drift, 4, (some .int), 6, 3, false)
theorem m96_at : mtab[96]? = some m96 := rfl
def m97 : aMe := (9, yX9_undo, cX9_undo, 2, (some .int), 5, 0, false)
theorem m97_at : mtab[97]? = some m97 := rfl
def m98 : aMe := (9, yX9_told, cX9_told, 2, (some .int), 3, 1, false)
theorem m98_at : mtab[98]? = some m98 := rfl
def m99 : aMe := (9, yX9_of, cX9_of, 4, (some .int), 7, 2, false)
theorem m99_at : mtab[99]? = some m99 := rfl
def m100 : aMe := (9, yX9_sign, cX9_sign, 3, (some .int), 4, 2, false)
theorem m100_at : mtab[100]? = some m100 := rfl
def m101 : aMe := (9, yX9_kind, cX9_kind, 3, (some .int), 7, 2, false)
theorem m101_at : mtab[101]? = some m101 := rfl
def m102 : aMe := (9, yX9_steps, cX9_steps, 4, (some .int), 6, 2, false)
theorem m102_at : mtab[102]? = some m102 := rfl
def m103 : aMe := (9, yX9_same, cX9_same, 3, (some .int), 2, 2, false)
theorem m103_at : mtab[103]? = some m103 := rfl
def m104 : aMe := (9, yX9_sameKind, cX9_sameKind, 3, (some .int), 7, 2, false)
theorem m104_at : mtab[104]? = some m104 := rfl
def m105 : aMe := (9, yX9_keep, cX9_keep, 3, (some .int), 4, 1, false)
theorem m105_at : mtab[105]? = some m105 := rfl
def m106 : aMe := (9, yX9_goBack, cX9_goBack, 3, (some .int), 4, 1, false)
theorem m106_at : mtab[106]? = some m106 := rfl
def m107 : aMe := (9, yX9_change, cX9_change, 2, (some .int), 5, 1, false)
theorem m107_at : mtab[107]? = some m107 := rfl
def m108 : aMe := (9, yX9_makePutIn, cX9_makePutIn, 5, none, 3, 3, false)
theorem m108_at : mtab[108]? = some m108 := rfl
def m109 : aMe := (9, yX9_makeByLots, cX9_makeByLots, 7, none, 2, 2, false)
theorem m109_at : mtab[109]? = some m109 := rfl
def m110 : aMe := (9, yX9_fullShelves, cX9_fullShelves, 3, (some .int), 2, 0, false)
theorem m110_at : mtab[110]? = some m110 := rfl
def m111 : aMe := (9, yX9_isEmpty, cX9_isEmpty, 2, (some .boolean), 1, 1, false)
theorem m111_at : mtab[111]? = some m111 := rfl
def m112 : aMe := (9, yX9_hasBinders, cX9_hasBinders, 2, (some .boolean), 2, 1, false)
theorem m112_at : mtab[112]? = some m112 := rfl
def m113 : aMe := (9, yX9_isShelf, cX9_isShelf, 1, (some .boolean), 0, 1, true)
theorem m113_at : mtab[113]? = some m113 := rfl
def m114 : aMe := (9, yX9_isImage, cX9_isImage, 1, (some .boolean), 0, 1, true)
theorem m114_at : mtab[114]? = some m114 := rfl
def m115 : aMe := (9, yX9_isHow, cX9_isHow, 1, (some .boolean), 0, 1, true)
theorem m115_at : mtab[115]? = some m115 := rfl
def m116 : aMe := (9, yX9_isName, cX9_isName, 1, (some .boolean), 0, 1, true)
theorem m116_at : mtab[116]? = some m116 := rfl
def m117 : aMe := (9, yX9_isBinder, cX9_isBinder, 1, (some .boolean), 0, 1, true)
theorem m117_at : mtab[117]? = some m117 := rfl
def m118 : aMe := (9, yX9_nameOf, cX9_nameOf, 1, (some .int), 0, 1, true)
theorem m118_at : mtab[118]? = some m118 := rfl
def m119 : aMe := (9, yX9_wants, cX9_wants, 1, (some .int), 0, 1, true)
theorem m119_at : mtab[119]? = some m119 := rfl
def m120 : aMe := (9, yX9_countOrNone, cX9_countOrNone, 1, (some .int), 1, 1, true)
theorem m120_at : mtab[120]? = some m120 := rfl
def m121 : aMe := (9, yX9_binders, cX9_binders, 3, (some .int), 1, 1, true)
theorem m121_at : mtab[121]? = some m121 := rfl
def m122 : aMe := (9, yX9_nextLot, cX9_nextLot, 2, (some .long), 0, 1, true)
theorem m122_at : mtab[122]? = some m122 := rfl
def m123 : aMe := (9, yX9_signOfLot, cX9_signOfLot, 2, (some .int), 1, 1, true)
theorem m123_at : mtab[123]? = some m123 := rfl
def m124 : aMe := (9, yX9_signAt, cX9_signAt, 1, (some .int), 0, 1, true)
theorem m124_at : mtab[124]? = some m124 := rfl
def m125 : aMe := (9, yX9_newRows, cX9_newRows, 3, (some (.array (.object "BinderPress$Row"))), 2, 1, true)
theorem m125_at : mtab[125]? = some m125 := rfl
def m126 : aMe := (10, yX10_init, cX10_init, 1, none, 1, 0, false)
theorem m126_at : mtab[126]? = some m126 := rfl
def m127 : aMe := (10, yX10_in, cX10_in, 6, (some .boolean), 0, 3, true)
theorem m127_at : mtab[127]? = some m127 := rfl
def m128 : aMe := (10, yX10_isName, cX10_isName, 1, (some .boolean), 1, 1, true)
theorem m128_at : mtab[128]? = some m128 := rfl
def m129 : aMe := (10, yX10_isBinder, cX10_isBinder, 1, (some .boolean), 0, 1, true)
theorem m129_at : mtab[129]? = some m129 := rfl
def m130 : aMe := (10, yX10_isShelf, cX10_isShelf, 1, (some .boolean), 1, 1, true)
theorem m130_at : mtab[130]? = some m130 := rfl
def m131 : aMe := (10, yX10_sizeOf, cX10_sizeOf, 2, (some .int), 0, 1, false)
theorem m131_at : mtab[131]? = some m131 := rfl
def m132 : aMe := (10, yX10_push, cX10_push, 2, none, 0, 1, false)
theorem m132_at : mtab[132]? = some m132 := rfl
def m133 : aMe := (10, yX10_pop, cX10_pop, 1, (some .int), 0, 0, false)
theorem m133_at : mtab[133]? = some m133 := rfl
def m134 : aMe := (10, yX10_make, cX10_make, 2, none, 0, 1, false)
theorem m134_at : mtab[134]? = some m134 := rfl
def m135 : aMe := (10, yX10_copyRow, cX10_copyRow, 4, none, 0, 2, false)
theorem m135_at : mtab[135]? = some m135 := rfl
def m136 : aMe := (10, yX10_take, cX10_take, 3, none, 1, 1, false)
theorem m136_at : mtab[136]? = some m136 := rfl
def m137 : aMe := (10, yX10_keepPast, cX10_keepPast, 2, none, 1, 0, false)
theorem m137_at : mtab[137]? = some m137 := rfl
def m138 : aMe := (10, yX10_lay, cX10_lay, 3, (some .int), 2, 1, false)
theorem m138_at : mtab[138]? = some m138 := rfl
def m139 : aMe := (10, yX10_takeMade, cX10_takeMade, 2, none, 0, 0, false)
theorem m139_at : mtab[139]? = some m139 := rfl
def m140 : aMe := (10, yX10_feed, cX10_feed, 2, (some .int), 1, 1, false)
theorem m140_at : mtab[140]? = some m140 := rfl
def m141 : aMe := (10, yX10_open, cX10_open, 2, none, 0, 1, false)
theorem m141_at : mtab[141]? = some m141 := rfl
def m142 : aMe := (10, yX10_hasTerm, cX10_hasTerm, 1, (some .boolean), 0, 0, false)
theorem m142_at : mtab[142]? = some m142 := rfl
def m143 : aMe := (10, yX10_putAhead, cX10_putAhead, 2, none, 1, 0, false)
theorem m143_at : mtab[143]? = some m143 := rfl
def m144 : aMe := (10, yX10_signOf, cX10_signOf, 1, (some .int), 0, 1, true)
theorem m144_at : mtab[144]? = some m144 := rfl
def m145 : aMe := (10, yX10_ends, cX10_ends, 3, (some .boolean), 1, 1, false)
theorem m145_at : mtab[145]? = some m145 := rfl
def m146 : aMe := (10, yX10_reads, cX10_reads, 3, (some .int), 2, 1, false)
theorem m146_at : mtab[146]? = some m146 := rfl
def m147 : aMe := (10, yX10_term, cX10_term, 4, (some .int), 3, 1, false)
theorem m147_at : mtab[147]? = some m147 := rfl
def m148 : aMe := (10, yX10_fault, cX10_fault, 1, (some .int), 0, 0, false)
theorem m148_at : mtab[148]? = some m148 := rfl
def m149 : aMe := (10, yX10_behind, cX10_behind, 4, (some .int), 1, 1, false)
theorem m149_at : mtab[149]? = some m149 := rfl
def m150 : aMe := (10, yX10_isFree, cX10_isFree, 5, (some .boolean), 2, 2, false)
theorem m150_at : mtab[150]? = some m150 := rfl
def m151 : aMe := (10, yX10_copyTerm, cX10_copyTerm, 4, none, 2, 1, false)
theorem m151_at : mtab[151]? = some m151 := rfl
def m152 : aMe := (10, yX10_takesOut, cX10_takesOut, 9, none, 3, 2, false)
theorem m152_at : mtab[152]? = some m152 := rfl
def m153 : aMe := (10, yX10_lastBinder, cX10_lastBinder, 2, (some .int), 1, 0, false)
theorem m153_at : mtab[153]? = some m153 := rfl
def m154 : aMe := (10, yX10_compiles, cX10_compiles, 4, none, 4, 0, false)
theorem m154_at : mtab[154]? = some m154 := rfl
def m155 : aMe := (10, yX10_compile, cX10_compile, 2, (some .int), 5, 1, false)
theorem m155_at : mtab[155]? = some m155 := rfl
def m156 : aMe := (10, yX10_takeOut, cX10_takeOut, 3, (some .int), 5, 2, false)
theorem m156_at : mtab[156]? = some m156 := rfl
def m157 : aMe := (10, yX10_copyShelf, cX10_copyShelf, 3, none, 1, 1, false)
theorem m157_at : mtab[157]? = some m157 := rfl
def m158 : aMe := (10, yX10_put, cX10_put, 4, (some .int), 3, 3, false)
theorem m158_at : mtab[158]? = some m158 := rfl
def m159 : aMe := (10, yX10_hasBinders, cX10_hasBinders, 4, (some .boolean), 1, 1, false)
theorem m159_at : mtab[159]? = some m159 := rfl
def m160 : aMe := (10, yX10_isPlain, cX10_isPlain, 2, (some .boolean), 2, 1, false)
theorem m160_at : mtab[160]? = some m160 := rfl
def m161 : aMe := (10, yX10_putIn, cX10_putIn, 5, (some .int), 3, 3, false)
theorem m161_at : mtab[161]? = some m161 := rfl
def m162 : aMe := (10, yX10_drop, cX10_drop, 3, (some .int), 3, 1, false)
theorem m162_at : mtab[162]? = some m162 := rfl
def m163 : aMe := (10, yX10_drift, cX10_drift, 8, (some .int), 3, 3, false)
theorem m163_at : mtab[163]? = some m163 := rfl
def m164 : aMe := (10, yX10_undo, cX10_undo, 1, (some .int), 1, 0, false)
theorem m164_at : mtab[164]? = some m164 := rfl
def m165 : aMe := (10, yX10_wants, cX10_wants, 1, (some .int), 1, 1, true)
theorem m165_at : mtab[165]? = some m165 := rfl
def m166 : aMe := (10, yX10_finds, cX10_finds, 8, (some .boolean), 2, 0, false)
theorem m166_at : mtab[166]? = some m166 := rfl
def m167 : aMe := (10, yX10_does, cX10_does, 4, none, 3, 0, false)
theorem m167_at : mtab[167]? = some m167 := rfl
def m168 : aMe := (10, yX10_worksPlainly, cX10_worksPlainly, 3, (some .int), 4, 1, false)
theorem m168_at : mtab[168]? = some m168 := rfl
def m169 : aMe := (10, yX10_thing, cX10_thing, 4, (some .int), 0, 3, false)
theorem m169_at : mtab[169]? = some m169 := rfl
def m170 : aMe := (10, yX10_real, cX10_real, 3, (some .int), 0, 1, false)
theorem m170_at : mtab[170]? = some m170 := rfl
def m171 : aMe := (10, yX10_layThings, cX10_layThings, 4, (some .int), 1, 0, false)
theorem m171_at : mtab[171]? = some m171 := rfl
def m172 : aMe := (10, yX10_writeOut, cX10_writeOut, 3, none, 1, 1, false)
theorem m172_at : mtab[172]? = some m172 := rfl
def m173 : aMe := (10, yX10_doesShared, cX10_doesShared, 6, (some .boolean), 2, 1, false)
theorem m173_at : mtab[173]? = some m173 := rfl
def m174 : aMe := (10, yX10_changes, cX10_changes, 7, none, 1, 3, false)
theorem m174_at : mtab[174]? = some m174 := rfl
def m175 : aMe := (10, yX10_hasStep, cX10_hasStep, 5, (some .boolean), 2, 1, false)
theorem m175_at : mtab[175]? = some m175 := rfl
def m176 : aMe := (10, yX10_worksShared, cX10_worksShared, 4, (some .int), 3, 1, false)
theorem m176_at : mtab[176]? = some m176 := rfl
def m177 : aMe := (10, yX10_works, cX10_works, 3, (some .int), 5, 2, false)
theorem m177_at : mtab[177]? = some m177 := rfl
def m178 : aMe := (10, yX10_work, cX10_work, 5, (some .int), 6, 3, false)
theorem m178_at : mtab[178]? = some m178 := rfl
def m179 : aMe := (10, yX10_steps, cX10_steps, 4, (some .int), 6, 2, false)
theorem m179_at : mtab[179]? = some m179 := rfl
def m180 : aMe := (10, yX10_kind2, cX10_kind2, 3, (some .int), 0, 2, false)
theorem m180_at : mtab[180]? = some m180 := rfl
def m181 : aMe := (10, yX10_unknown, cX10_unknown, 1, (some .int), 1, 0, false)
theorem m181_at : mtab[181]? = some m181 := rfl
def m182 : aMe := (10, yX10_realKind, cX10_realKind, 3, (some .int), 0, 1, false)
theorem m182_at : mtab[182]? = some m182 := rfl
def m183 : aMe := (10, yX10_kindOfSign, cX10_kindOfSign, 7, (some .int), 2, 1, false)
theorem m183_at : mtab[183]? = some m183 := rfl
def m184 : aMe := (10, yX10_kindOfName, cX10_kindOfName, 4, (some .int), 2, 1, false)
theorem m184_at : mtab[184]? = some m184 := rfl
def m185 : aMe := (10, yX10_meet, cX10_meet, 7, none, 1, 2, false)
theorem m185_at : mtab[185]? = some m185 := rfl
def m186 : aMe := (10, yX10_areSound, cX10_areSound, 5, (some .boolean), 1, 0, false)
theorem m186_at : mtab[186]? = some m186 := rfl
def m187 : aMe := (10, yX10_kindOf, cX10_kindOf, 6, (some .int), 3, 1, false)
theorem m187_at : mtab[187]? = some m187 := rfl
def m188 : aMe := (10, yX10_write, cX10_write, 2, none, 0, 1, false)
theorem m188_at : mtab[188]? = some m188 := rfl
def m189 : aMe := (10, yX10_writeKind, cX10_writeKind, 6, (some .int), 4, 1, false)
theorem m189_at : mtab[189]? = some m189 := rfl
def m190 : aMe := (10, yX10_writeTerm, cX10_writeTerm, 3, none, 3, 1, false)
theorem m190_at : mtab[190]? = some m190 := rfl
def m191 : aMe := (10, yX10_letterOfSign, cX10_letterOfSign, 1, (some .int), 0, 1, true)
theorem m191_at : mtab[191]? = some m191 := rfl
def m192 : aMe := (10, yX10_pushIn, cX10_pushIn, 3, none, 1, 2, false)
theorem m192_at : mtab[192]? = some m192 := rfl
def m193 : aMe := (10, yX10_writePut, cX10_writePut, 3, none, 2, 1, false)
theorem m193_at : mtab[193]? = some m193 := rfl
def m194 : aMe := (10, yX10_told, cX10_told, 4, (some .int), 1, 1, false)
theorem m194_at : mtab[194]? = some m194 := rfl
def m195 : aMe := (10, yX10_freeNames, cX10_freeNames, 3, (some .int), 3, 0, false)
theorem m195_at : mtab[195]? = some m195 := rfl
def m196 : aMe := (10, yX10_howMany, cX10_howMany, 5, (some .int), 1, 2, false)
theorem m196_at : mtab[196]? = some m196 := rfl
def m197 : aMe := (10, yX10_deepest, cX10_deepest, 4, (some .int), 1, 0, false)
theorem m197_at : mtab[197]? = some m197 := rfl
def m198 : aMe := (10, yX10_of, cX10_of, 3, (some .int), 5, 2, false)
theorem m198_at : mtab[198]? = some m198 := rfl
def m199 : aMe := (10, yX10_sign, cX10_sign, 3, (some .int), 4, 2, false)
theorem m199_at : mtab[199]? = some m199 := rfl
def m200 : aMe := (10, yX10_kind, cX10_kind, 4, (some .int), 5, 2, false)
theorem m200_at : mtab[200]? = some m200 := rfl
def m201 : aMe := (10, yX10_same, cX10_same, 5, (some .int), 2, 2, false)
theorem m201_at : mtab[201]? = some m201 := rfl
def m202 : aMe := (10, yX10_sameKind, cX10_sameKind, 7, (some .int), 5, 2, false)
theorem m202_at : mtab[202]? = some m202 := rfl
def m203 : aMe := (10, yX10_keep, cX10_keep, 2, (some .int), 1, 1, false)
theorem m203_at : mtab[203]? = some m203 := rfl
def m204 : aMe := (10, yX10_goBack, cX10_goBack, 2, (some .int), 1, 1, false)
theorem m204_at : mtab[204]? = some m204 := rfl
