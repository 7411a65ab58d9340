/-! the tables of calls: their words are among the good ones, by their places -/
def inP (i : Nat) (x : Jvm.Cond) : Bool := decide (lw_tbl[i]? = some x) && goodWord x
theorem inP_mem {i : Nat} {x : Jvm.Cond} (h : inP i x = true) : x ∈ gW := by
  simp only [inP, Bool.and_eq_true, decide_eq_true_eq] at h
  exact List.mem_filter.mpr ⟨List.mem_of_getElem? h.1, h.2⟩
def inN (i : Nat) (x : Jvm.Cond) : Bool := decide (lw_tbl[i]? = some x) && isNest x
theorem inN_mem {i : Nat} {x : Jvm.Cond} (h : inN i x = true) : x ∈ nW := by
  simp only [inN, Bool.and_eq_true, decide_eq_true_eq] at h
  exact List.mem_filter.mpr ⟨List.mem_of_getElem? h.1, h.2⟩
theorem tbl_at {i : Nat} {x : Jvm.Cond} (h : tables_1[i]? = some x) : x ∈ lw_tbl := List.mem_append_right _ (List.mem_of_getElem? h)
set_option maxRecDepth 20000 in
theorem ci_0 : Jvm.Cond.code yX0_init cX0_init 1 none ∈ gW := List.mem_filter.mpr ⟨tbl_at (i := 128) rfl, rfl⟩
set_option maxRecDepth 20000 in
theorem ci_1 : Jvm.Cond.code yX0_run cX0_run 6 (some .int) ∈ gW := List.mem_filter.mpr ⟨tbl_at (i := 511) rfl, rfl⟩
set_option maxRecDepth 20000 in
theorem ci_2 : Jvm.Cond.code yX0_result cX0_result 1 (some (.object "BinderPress$Row")) ∈ gW := List.mem_filter.mpr ⟨tbl_at (i := 571) rfl, rfl⟩
set_option maxRecDepth 20000 in
theorem ci_3 : Jvm.Cond.code yX0_isTooBig cX0_isTooBig 1 (some .boolean) ∈ gW := List.mem_filter.mpr ⟨tbl_at (i := 537) rfl, rfl⟩
set_option maxRecDepth 20000 in
theorem ci_4 : Jvm.Cond.code yX0_hasStep cX0_hasStep 1 (some .boolean) ∈ gW := List.mem_filter.mpr ⟨tbl_at (i := 779) rfl, rfl⟩
set_option maxRecDepth 20000 in
theorem ci_5 : Jvm.Cond.code yX0_findStep cX0_findStep 4 (some .int) ∈ gW := List.mem_filter.mpr ⟨tbl_at (i := 530) rfl, rfl⟩
set_option maxRecDepth 20000 in
theorem ci_6 : Jvm.Cond.code yX0_takeStep cX0_takeStep 7 none ∈ gW := List.mem_filter.mpr ⟨tbl_at (i := 560) rfl, rfl⟩
set_option maxRecDepth 20000 in
theorem ci_7 : Jvm.Cond.code yX0_endOf cX0_endOf 4 (some .int) ∈ gW := List.mem_filter.mpr ⟨tbl_at (i := 564) rfl, rfl⟩
set_option maxRecDepth 20000 in
theorem ci_8 : Jvm.Cond.code yX1_init cX1_init 1 none ∈ gW := List.mem_filter.mpr ⟨tbl_at (i := 48) rfl, rfl⟩
set_option maxRecDepth 20000 in
theorem ci_9 : Jvm.Cond.code yX1_count cX1_count 1 (some .int) ∈ gW := List.mem_filter.mpr ⟨tbl_at (i := 608) rfl, rfl⟩
set_option maxRecDepth 20000 in
theorem ci_10 : Jvm.Cond.code yX1_forget cX1_forget 1 none ∈ gW := List.mem_filter.mpr ⟨tbl_at (i := 803) rfl, rfl⟩
set_option maxRecDepth 20000 in
theorem ci_11 : Jvm.Cond.code yX1_remember cX1_remember 3 none ∈ gW := List.mem_filter.mpr ⟨tbl_at (i := 379) rfl, rfl⟩
set_option maxRecDepth 20000 in
theorem ci_12 : Jvm.Cond.code yX1_latestShelf cX1_latestShelf 1 (some .int) ∈ gW := List.mem_filter.mpr ⟨tbl_at (i := 612) rfl, rfl⟩
set_option maxRecDepth 20000 in
theorem ci_13 : Jvm.Cond.code yX1_giveBack cX1_giveBack 2 none ∈ gW := List.mem_filter.mpr ⟨tbl_at (i := 616) rfl, rfl⟩
set_option maxRecDepth 20000 in
theorem ci_14 : Jvm.Cond.code yX1_loseOldest cX1_loseOldest 3 none ∈ gW := List.mem_filter.mpr ⟨tbl_at (i := 383) rfl, rfl⟩
set_option maxRecDepth 20000 in
theorem ci_15 : Jvm.Cond.code yX2_init cX2_init 1 none ∈ gW := List.mem_filter.mpr ⟨tbl_at (i := 66) rfl, rfl⟩
set_option maxRecDepth 20000 in
theorem ci_16 : Jvm.Cond.code yX2_place cX2_place 1 (some .int) ∈ gW := List.mem_filter.mpr ⟨tbl_at (i := 371) rfl, rfl⟩
set_option maxRecDepth 20000 in
theorem ci_17 : Jvm.Cond.code yX2_read cX2_read 5 (some .int) ∈ gW := List.mem_filter.mpr ⟨tbl_at (i := 297) rfl, rfl⟩
set_option maxRecDepth 20000 in
theorem ci_18 : Jvm.Cond.code yX2_readLetter cX2_readLetter 4 (some .int) ∈ gW := List.mem_filter.mpr ⟨tbl_at (i := 315) rfl, rfl⟩
set_option maxRecDepth 20000 in
theorem ci_19 : Jvm.Cond.code yX2_readBoundName cX2_readBoundName 3 (some .int) ∈ gW := List.mem_filter.mpr ⟨tbl_at (i := 319) rfl, rfl⟩
set_option maxRecDepth 20000 in
theorem ci_20 : Jvm.Cond.code yX2_readDot cX2_readDot 3 (some .int) ∈ gW := List.mem_filter.mpr ⟨tbl_at (i := 330) rfl, rfl⟩
set_option maxRecDepth 20000 in
theorem ci_21 : Jvm.Cond.code yX2_readOpening cX2_readOpening 2 (some .int) ∈ gW := List.mem_filter.mpr ⟨tbl_at (i := 351) rfl, rfl⟩
set_option maxRecDepth 20000 in
theorem ci_22 : Jvm.Cond.code yX2_readClosing cX2_readClosing 3 (some .int) ∈ gW := List.mem_filter.mpr ⟨tbl_at (i := 334) rfl, rfl⟩
set_option maxRecDepth 20000 in
theorem ci_23 : Jvm.Cond.code yX2_addCell cX2_addCell 3 (some .int) ∈ gW := List.mem_filter.mpr ⟨tbl_at (i := 363) rfl, rfl⟩
set_option maxRecDepth 20000 in
theorem ci_24 : Jvm.Cond.code yX2_joins cX2_joins 5 (some .boolean) ∈ gW := List.mem_filter.mpr ⟨tbl_at (i := 355) rfl, rfl⟩
set_option maxRecDepth 20000 in
theorem ci_25 : Jvm.Cond.code yX2_hasSome cX2_hasSome 2 (some .boolean) ∈ gW := List.mem_filter.mpr ⟨tbl_at (i := 338) rfl, rfl⟩
set_option maxRecDepth 20000 in
theorem ci_26 : Jvm.Cond.code yX2_open cX2_open 3 none ∈ gW := List.mem_filter.mpr ⟨tbl_at (i := 305) rfl, rfl⟩
set_option maxRecDepth 20000 in
theorem ci_27 : Jvm.Cond.code yX3_init cX3_init 2 none ∈ gW := List.mem_filter.mpr ⟨tbl_at (i := 26) rfl, rfl⟩
set_option maxRecDepth 20000 in
theorem ci_28 : Jvm.Cond.code yX3_count cX3_count 1 (some .int) ∈ gW := List.mem_filter.mpr ⟨tbl_at (i := 280) rfl, rfl⟩
set_option maxRecDepth 20000 in
theorem ci_29 : Jvm.Cond.code yX3_clear cX3_clear 1 none ∈ gW := List.mem_filter.mpr ⟨tbl_at (i := 301) rfl, rfl⟩
set_option maxRecDepth 20000 in
theorem ci_30 : Jvm.Cond.code yX3_at cX3_at 2 (some .int) ∈ gW := List.mem_filter.mpr ⟨tbl_at (i := 311) rfl, rfl⟩
set_option maxRecDepth 20000 in
theorem ci_31 : Jvm.Cond.code yX3_atOr cX3_atOr 3 (some .int) ∈ gW := List.mem_filter.mpr ⟨tbl_at (i := 766) rfl, rfl⟩
set_option maxRecDepth 20000 in
theorem ci_32 : Jvm.Cond.code yX3_last cX3_last 1 (some .int) ∈ gW := List.mem_filter.mpr ⟨tbl_at (i := 342) rfl, rfl⟩
set_option maxRecDepth 20000 in
theorem ci_33 : Jvm.Cond.code yX3_set cX3_set 3 none ∈ gW := List.mem_filter.mpr ⟨tbl_at (i := 326) rfl, rfl⟩
set_option maxRecDepth 20000 in
theorem ci_34 : Jvm.Cond.code yX3_add cX3_add 2 none ∈ gW := List.mem_filter.mpr ⟨tbl_at (i := 285) rfl, rfl⟩
set_option maxRecDepth 20000 in
theorem ci_35 : Jvm.Cond.code yX3_pop cX3_pop 2 (some .int) ∈ gW := List.mem_filter.mpr ⟨tbl_at (i := 346) rfl, rfl⟩
set_option maxRecDepth 20000 in
theorem ci_36 : Jvm.Cond.code yX3_insert cX3_insert 4 none ∈ gW := List.mem_filter.mpr ⟨tbl_at (i := 359) rfl, rfl⟩
set_option maxRecDepth 20000 in
theorem ci_37 : Jvm.Cond.code yX3_fill cX3_fill 4 none ∈ gW := List.mem_filter.mpr ⟨tbl_at (i := 441) rfl, rfl⟩
set_option maxRecDepth 20000 in
theorem ci_38 : Jvm.Cond.code yX3_addAll cX3_addAll 2 none ∈ gW := List.mem_filter.mpr ⟨tbl_at (i := 392) rfl, rfl⟩
set_option maxRecDepth 20000 in
theorem ci_39 : Jvm.Cond.code yX3_addPart cX3_addPart 6 none ∈ gW := List.mem_filter.mpr ⟨tbl_at (i := 396) rfl, rfl⟩
set_option maxRecDepth 20000 in
theorem ci_40 : Jvm.Cond.code yX3_become cX3_become 2 none ∈ gW := List.mem_filter.mpr ⟨tbl_at (i := 387) rfl, rfl⟩
set_option maxRecDepth 20000 in
theorem ci_41 : Jvm.Cond.code yX3_isLike cX3_isLike 3 (some .boolean) ∈ gW := List.mem_filter.mpr ⟨tbl_at (i := 787) rfl, rfl⟩
set_option maxRecDepth 20000 in
theorem ci_42 : Jvm.Cond.code yX3_howOften cX3_howOften 4 (some .int) ∈ gW := List.mem_filter.mpr ⟨tbl_at (i := 758) rfl, rfl⟩
set_option maxRecDepth 20000 in
theorem ci_43 : Jvm.Cond.code yX4_init cX4_init 1 none ∈ gW := List.mem_filter.mpr ⟨tbl_at (i := 175) rfl, rfl⟩
set_option maxRecDepth 20000 in
theorem ci_44 : Jvm.Cond.code yX4_written cX4_written 1 (some (.object "BinderPress$Row")) ∈ gW := List.mem_filter.mpr ⟨tbl_at (i := 664) rfl, rfl⟩
set_option maxRecDepth 20000 in
theorem ci_45 : Jvm.Cond.code yX4_write cX4_write 4 none ∈ gW := List.mem_filter.mpr ⟨tbl_at (i := 643) rfl, rfl⟩
set_option maxRecDepth 20000 in
theorem ci_46 : Jvm.Cond.code yX4_writeAt cX4_writeAt 5 none ∈ gW := List.mem_filter.mpr ⟨tbl_at (i := 652) rfl, rfl⟩
set_option maxRecDepth 20000 in
theorem ci_47 : Jvm.Cond.code yX4_openPart cX4_openPart 3 none ∈ gW := List.mem_filter.mpr ⟨tbl_at (i := 659) rfl, rfl⟩
set_option maxRecDepth 20000 in
theorem ci_48 : Jvm.Cond.code yX5_init cX5_init 1 none ∈ gW := List.mem_filter.mpr ⟨tbl_at (i := 195) rfl, rfl⟩
set_option maxRecDepth 20000 in
theorem ci_49 : Jvm.Cond.code yX5_written cX5_written 1 (some (.object "BinderPress$Row")) ∈ gW := List.mem_filter.mpr ⟨tbl_at (i := 751) rfl, rfl⟩
set_option maxRecDepth 20000 in
theorem ci_50 : Jvm.Cond.code yX5_find cX5_find 3 (some .boolean) ∈ gW := List.mem_filter.mpr ⟨tbl_at (i := 673) rfl, rfl⟩
set_option maxRecDepth 20000 in
theorem ci_51 : Jvm.Cond.code yX5_write cX5_write 4 (some .boolean) ∈ gW := List.mem_filter.mpr ⟨tbl_at (i := 738) rfl, rfl⟩
set_option maxRecDepth 20000 in
theorem ci_52 : Jvm.Cond.code yX5_writeAt cX5_writeAt 3 none ∈ gW := List.mem_filter.mpr ⟨tbl_at (i := 743) rfl, rfl⟩
set_option maxRecDepth 20000 in
theorem ci_53 : Jvm.Cond.code yX5_letterOf cX5_letterOf 2 (some .int) ∈ gW := List.mem_filter.mpr ⟨tbl_at (i := 747) rfl, rfl⟩
set_option maxRecDepth 20000 in
theorem ci_54 : Jvm.Cond.code yX5_giveNamesKinds cX5_giveNamesKinds 4 none ∈ gW := List.mem_filter.mpr ⟨tbl_at (i := 679) rfl, rfl⟩
set_option maxRecDepth 20000 in
theorem ci_55 : Jvm.Cond.code yX5_nameKind cX5_nameKind 5 (some .int) ∈ gW := List.mem_filter.mpr ⟨tbl_at (i := 697) rfl, rfl⟩
set_option maxRecDepth 20000 in
theorem ci_56 : Jvm.Cond.code yX5_giveKind cX5_giveKind 5 none ∈ gW := List.mem_filter.mpr ⟨tbl_at (i := 703) rfl, rfl⟩
set_option maxRecDepth 20000 in
theorem ci_57 : Jvm.Cond.code yX5_signKind cX5_signKind 6 (some .int) ∈ gW := List.mem_filter.mpr ⟨tbl_at (i := 721) rfl, rfl⟩
set_option maxRecDepth 20000 in
theorem ci_58 : Jvm.Cond.code yX5_unknown cX5_unknown 1 (some .int) ∈ gW := List.mem_filter.mpr ⟨tbl_at (i := 687) rfl, rfl⟩
set_option maxRecDepth 20000 in
theorem ci_59 : Jvm.Cond.code yX5_arrow cX5_arrow 3 (some .int) ∈ gW := List.mem_filter.mpr ⟨tbl_at (i := 691) rfl, rfl⟩
set_option maxRecDepth 20000 in
theorem ci_60 : Jvm.Cond.code yX5_isUnknown cX5_isUnknown 2 (some .boolean) ∈ gW := List.mem_filter.mpr ⟨tbl_at (i := 716) rfl, rfl⟩
set_option maxRecDepth 20000 in
theorem ci_61 : Jvm.Cond.code yX5_meant cX5_meant 4 (some .int) ∈ gW := List.mem_filter.mpr ⟨tbl_at (i := 712) rfl, rfl⟩
set_option maxRecDepth 20000 in
theorem ci_62 : Jvm.Cond.code yX5_makeOne cX5_makeOne 6 none ∈ gW := List.mem_filter.mpr ⟨tbl_at (i := 707) rfl, rfl⟩
set_option maxRecDepth 20000 in
theorem ci_63 : Jvm.Cond.code yX5_hasNoneWithinItself cX5_hasNoneWithinItself 2 (some .boolean) ∈ gW := List.mem_filter.mpr ⟨tbl_at (i := 725) rfl, rfl⟩
set_option maxRecDepth 20000 in
theorem ci_64 : Jvm.Cond.code yX5_isSoundFrom cX5_isSoundFrom 4 (some .boolean) ∈ gW := List.mem_filter.mpr ⟨tbl_at (i := 729) rfl, rfl⟩
set_option maxRecDepth 20000 in
theorem ci_65 : Jvm.Cond.code yX5_enters cX5_enters 3 (some .boolean) ∈ gW := List.mem_filter.mpr ⟨tbl_at (i := 734) rfl, rfl⟩
set_option maxRecDepth 20000 in
theorem ci_66 : Jvm.Cond.code yX6_init cX6_init 2 none ∈ gW := List.mem_filter.mpr ⟨tbl_at (i := 90) rfl, rfl⟩
set_option maxRecDepth 20000 in
theorem ci_67 : Jvm.Cond.code yX6_measure cX6_measure 4 none ∈ gW := List.mem_filter.mpr ⟨tbl_at (i := 436) rfl, rfl⟩
set_option maxRecDepth 20000 in
theorem ci_68 : Jvm.Cond.code yX6_end cX6_end 2 (some .int) ∈ gW := List.mem_filter.mpr ⟨tbl_at (i := 447) rfl, rfl⟩
set_option maxRecDepth 20000 in
theorem ci_69 : Jvm.Cond.code yX6_freeNames cX6_freeNames 3 (some .int) ∈ gW := List.mem_filter.mpr ⟨tbl_at (i := 632) rfl, rfl⟩
set_option maxRecDepth 20000 in
theorem ci_70 : Jvm.Cond.code yX6_freeAt cX6_freeAt 3 (some .int) ∈ gW := List.mem_filter.mpr ⟨tbl_at (i := 637) rfl, rfl⟩
set_option maxRecDepth 20000 in
theorem ci_71 : Jvm.Cond.code yX6_longestRow cX6_longestRow 4 (some .int) ∈ gW := List.mem_filter.mpr ⟨tbl_at (i := 668) rfl, rfl⟩
set_option maxRecDepth 20000 in
theorem ci_72 : Jvm.Cond.code yX7_init cX7_init 1 none ∈ gW := List.mem_filter.mpr ⟨tbl_at (i := 105) rfl, rfl⟩
set_option maxRecDepth 20000 in
theorem ci_73 : Jvm.Cond.code yX7_press cX7_press 4 none ∈ gW := List.mem_filter.mpr ⟨tbl_at (i := 420) rfl, rfl⟩
set_option maxRecDepth 20000 in
theorem ci_74 : Jvm.Cond.code yX7_takeFrom cX7_takeFrom 3 none ∈ gW := List.mem_filter.mpr ⟨tbl_at (i := 478) rfl, rfl⟩
set_option maxRecDepth 20000 in
theorem ci_75 : Jvm.Cond.code yX7_takeBinder cX7_takeBinder 3 none ∈ gW := List.mem_filter.mpr ⟨tbl_at (i := 430) rfl, rfl⟩
set_option maxRecDepth 20000 in
theorem ci_76 : Jvm.Cond.code yX7_takePart cX7_takePart 6 none ∈ gW := List.mem_filter.mpr ⟨tbl_at (i := 456) rfl, rfl⟩
set_option maxRecDepth 20000 in
theorem ci_77 : Jvm.Cond.code yX7_takeAt cX7_takeAt 8 none ∈ gW := List.mem_filter.mpr ⟨tbl_at (i := 469) rfl, rfl⟩
set_option maxRecDepth 20000 in
theorem ci_78 : Jvm.Cond.code yX7_markHolders cX7_markHolders 5 none ∈ gW := List.mem_filter.mpr ⟨tbl_at (i := 460) rfl, rfl⟩
set_option maxRecDepth 20000 in
theorem ci_79 : Jvm.Cond.code yX8_init cX8_init 1 none ∈ gW := List.mem_filter.mpr ⟨tbl_at (i := 136) rfl, rfl⟩
set_option maxRecDepth 20000 in
theorem ci_80 : Jvm.Cond.code yX8_load cX8_load 3 none ∈ gW := List.mem_filter.mpr ⟨tbl_at (i := 516) rfl, rfl⟩
set_option maxRecDepth 20000 in
theorem ci_81 : Jvm.Cond.code yX8_takeStep cX8_takeStep 8 none ∈ gW := List.mem_filter.mpr ⟨tbl_at (i := 541) rfl, rfl⟩
set_option maxRecDepth 20000 in
theorem ci_82 : Jvm.Cond.code yX8_add cX8_add 4 (some .int) ∈ gW := List.mem_filter.mpr ⟨tbl_at (i := 525) rfl, rfl⟩
set_option maxRecDepth 20000 in
theorem ci_83 : Jvm.Cond.code yX8_replace cX8_replace 4 none ∈ gW := List.mem_filter.mpr ⟨tbl_at (i := 546) rfl, rfl⟩
set_option maxRecDepth 20000 in
theorem ci_84 : Jvm.Cond.code yX8_writeOut cX8_writeOut 5 none ∈ gW := List.mem_filter.mpr ⟨tbl_at (i := 551) rfl, rfl⟩
set_option maxRecDepth 20000 in
theorem ci_85 : Jvm.Cond.code yX8_follow cX8_follow 4 (some .int) ∈ gW := List.mem_filter.mpr ⟨tbl_at (i := 556) rfl, rfl⟩
set_option maxRecDepth 20000 in
theorem ci_86 : Jvm.Cond.code yX9_init cX9_init 1 none ∈ gW := List.mem_filter.mpr ⟨tbl_at (i := 18) rfl, rfl⟩
set_option maxRecDepth 20000 in
theorem ci_87 : Jvm.Cond.code yX9_feed cX9_feed 2 (some .int) ∈ gW := List.mem_filter.mpr ⟨tbl_at (i := 275) rfl, rfl⟩
set_option maxRecDepth 20000 in
theorem ci_88 : Jvm.Cond.code yX9_term cX9_term 3 (some .int) ∈ gW := List.mem_filter.mpr ⟨tbl_at (i := 289) rfl, rfl⟩
set_option maxRecDepth 20000 in
theorem ci_89 : Jvm.Cond.code yX9_fault cX9_fault 1 (some .int) ∈ gW := List.mem_filter.mpr ⟨tbl_at (i := 407) rfl, rfl⟩
set_option maxRecDepth 20000 in
theorem ci_90 : Jvm.Cond.code yX9_compile cX9_compile 2 (some .int) ∈ gW := List.mem_filter.mpr ⟨tbl_at (i := 411) rfl, rfl⟩
set_option maxRecDepth 20000 in
theorem ci_91 : Jvm.Cond.code yX9_takeOut cX9_takeOut 3 (some .int) ∈ gW := List.mem_filter.mpr ⟨tbl_at (i := 473) rfl, rfl⟩
set_option maxRecDepth 20000 in
theorem ci_92 : Jvm.Cond.code yX9_put cX9_put 4 (some .int) ∈ gW := List.mem_filter.mpr ⟨tbl_at (i := 482) rfl, rfl⟩
set_option maxRecDepth 20000 in
theorem ci_93 : Jvm.Cond.code yX9_putIn cX9_putIn 4 (some .int) ∈ gW := List.mem_filter.mpr ⟨tbl_at (i := 487) rfl, rfl⟩
set_option maxRecDepth 20000 in
theorem ci_94 : Jvm.Cond.code yX9_work cX9_work 6 (some .int) ∈ gW := List.mem_filter.mpr ⟨tbl_at (i := 504) rfl, rfl⟩
set_option maxRecDepth 20000 in
theorem ci_95 : Jvm.Cond.code yX9_drop cX9_drop 3 (some .int) ∈ gW := List.mem_filter.mpr ⟨tbl_at (i := 575) rfl, rfl⟩
set_option maxRecDepth 20000 in
theorem ci_96 : Jvm.Cond.code yX9_drift cX9_drift 4 (some .int) ∈ gW := List.mem_filter.mpr ⟨tbl_at (i := 579) rfl, rfl⟩
set_option maxRecDepth 20000 in
theorem ci_97 : Jvm.Cond.code yX9_undo cX9_undo 2 (some .int) ∈ gW := List.mem_filter.mpr ⟨tbl_at (i := 604) rfl, rfl⟩
set_option maxRecDepth 20000 in
theorem ci_98 : Jvm.Cond.code yX9_told cX9_told 2 (some .int) ∈ gW := List.mem_filter.mpr ⟨tbl_at (i := 620) rfl, rfl⟩
set_option maxRecDepth 20000 in
theorem ci_99 : Jvm.Cond.code yX9_of cX9_of 4 (some .int) ∈ gW := List.mem_filter.mpr ⟨tbl_at (i := 628) rfl, rfl⟩
set_option maxRecDepth 20000 in
theorem ci_100 : Jvm.Cond.code yX9_sign cX9_sign 3 (some .int) ∈ gW := List.mem_filter.mpr ⟨tbl_at (i := 762) rfl, rfl⟩
set_option maxRecDepth 20000 in
theorem ci_101 : Jvm.Cond.code yX9_kind cX9_kind 3 (some .int) ∈ gW := List.mem_filter.mpr ⟨tbl_at (i := 770) rfl, rfl⟩
set_option maxRecDepth 20000 in
theorem ci_102 : Jvm.Cond.code yX9_steps cX9_steps 4 (some .int) ∈ gW := List.mem_filter.mpr ⟨tbl_at (i := 774) rfl, rfl⟩
set_option maxRecDepth 20000 in
theorem ci_103 : Jvm.Cond.code yX9_same cX9_same 3 (some .int) ∈ gW := List.mem_filter.mpr ⟨tbl_at (i := 783) rfl, rfl⟩
set_option maxRecDepth 20000 in
theorem ci_104 : Jvm.Cond.code yX9_sameKind cX9_sameKind 3 (some .int) ∈ gW := List.mem_filter.mpr ⟨tbl_at (i := 792) rfl, rfl⟩
set_option maxRecDepth 20000 in
theorem ci_105 : Jvm.Cond.code yX9_keep cX9_keep 3 (some .int) ∈ gW := List.mem_filter.mpr ⟨tbl_at (i := 796) rfl, rfl⟩
set_option maxRecDepth 20000 in
theorem ci_106 : Jvm.Cond.code yX9_goBack cX9_goBack 3 (some .int) ∈ gW := List.mem_filter.mpr ⟨tbl_at (i := 807) rfl, rfl⟩
set_option maxRecDepth 20000 in
theorem ci_107 : Jvm.Cond.code yX9_change cX9_change 2 (some .int) ∈ gW := List.mem_filter.mpr ⟨tbl_at (i := 375) rfl, rfl⟩
set_option maxRecDepth 20000 in
theorem ci_108 : Jvm.Cond.code yX9_makePutIn cX9_makePutIn 5 none ∈ gW := List.mem_filter.mpr ⟨tbl_at (i := 500) rfl, rfl⟩
set_option maxRecDepth 20000 in
theorem ci_109 : Jvm.Cond.code yX9_makeByLots cX9_makeByLots 7 none ∈ gW := List.mem_filter.mpr ⟨tbl_at (i := 584) rfl, rfl⟩
set_option maxRecDepth 20000 in
theorem ci_110 : Jvm.Cond.code yX9_fullShelves cX9_fullShelves 3 (some .int) ∈ gW := List.mem_filter.mpr ⟨tbl_at (i := 624) rfl, rfl⟩
set_option maxRecDepth 20000 in
theorem ci_111 : Jvm.Cond.code yX9_isEmpty cX9_isEmpty 2 (some .boolean) ∈ gW := List.mem_filter.mpr ⟨tbl_at (i := 415) rfl, rfl⟩
set_option maxRecDepth 20000 in
theorem ci_112 : Jvm.Cond.code yX9_hasBinders cX9_hasBinders 2 (some .boolean) ∈ gW := List.mem_filter.mpr ⟨tbl_at (i := 491) rfl, rfl⟩
set_option maxRecDepth 20000 in
theorem ci_113 : Jvm.Cond.code yX9_isShelf cX9_isShelf 1 (some .boolean) ∈ gW := List.mem_filter.mpr ⟨tbl_at (i := 292) rfl, rfl⟩
set_option maxRecDepth 20000 in
theorem ci_114 : Jvm.Cond.code yX9_isImage cX9_isImage 1 (some .boolean) ∈ gW := List.mem_filter.mpr ⟨tbl_at (i := 799) rfl, rfl⟩
set_option maxRecDepth 20000 in
theorem ci_115 : Jvm.Cond.code yX9_isHow cX9_isHow 1 (some .boolean) ∈ gW := List.mem_filter.mpr ⟨tbl_at (i := 507) rfl, rfl⟩
set_option maxRecDepth 20000 in
theorem ci_116 : Jvm.Cond.code yX9_isName cX9_isName 1 (some .boolean) ∈ gW := List.mem_filter.mpr ⟨tbl_at (i := 322) rfl, rfl⟩
set_option maxRecDepth 20000 in
theorem ci_117 : Jvm.Cond.code yX9_isBinder cX9_isBinder 1 (some .boolean) ∈ gW := List.mem_filter.mpr ⟨tbl_at (i := 426) rfl, rfl⟩
set_option maxRecDepth 20000 in
theorem ci_118 : Jvm.Cond.code yX9_nameOf cX9_nameOf 1 (some .int) ∈ gW := List.mem_filter.mpr ⟨tbl_at (i := 452) rfl, rfl⟩
set_option maxRecDepth 20000 in
theorem ci_119 : Jvm.Cond.code yX9_wants cX9_wants 1 (some .int) ∈ gW := List.mem_filter.mpr ⟨tbl_at (i := 366) rfl, rfl⟩
set_option maxRecDepth 20000 in
theorem ci_120 : Jvm.Cond.code yX9_countOrNone cX9_countOrNone 1 (some .int) ∈ gW := List.mem_filter.mpr ⟨tbl_at (i := 754) rfl, rfl⟩
set_option maxRecDepth 20000 in
theorem ci_121 : Jvm.Cond.code yX9_binders cX9_binders 3 (some .int) ∈ gW := List.mem_filter.mpr ⟨tbl_at (i := 494) rfl, rfl⟩
set_option maxRecDepth 20000 in
theorem ci_122 : Jvm.Cond.code yX9_nextLot cX9_nextLot 2 (some .long) ∈ gW := List.mem_filter.mpr ⟨tbl_at (i := 587) rfl, rfl⟩
set_option maxRecDepth 20000 in
theorem ci_123 : Jvm.Cond.code yX9_signOfLot cX9_signOfLot 2 (some .int) ∈ gW := List.mem_filter.mpr ⟨tbl_at (i := 592) rfl, rfl⟩
set_option maxRecDepth 20000 in
theorem ci_124 : Jvm.Cond.code yX9_signAt cX9_signAt 1 (some .int) ∈ gW := List.mem_filter.mpr ⟨tbl_at (i := 596) rfl, rfl⟩
set_option maxRecDepth 20000 in
theorem ci_125 : Jvm.Cond.code yX9_newRows cX9_newRows 3 (some (.array (.object "BinderPress$Row"))) ∈ gW := List.mem_filter.mpr ⟨tbl_at (i := 41) rfl, rfl⟩
set_option maxRecDepth 20000 in
theorem ci_126 : Jvm.Cond.code yX10_init cX10_init 1 none ∈ gW := List.mem_filter.mpr ⟨tbl_at (i := 812) rfl, rfl⟩
set_option maxRecDepth 20000 in
theorem ci_127 : Jvm.Cond.code yX10_in cX10_in 6 (some .boolean) ∈ gW := List.mem_filter.mpr ⟨tbl_at (i := 933) rfl, rfl⟩
set_option maxRecDepth 20000 in
theorem ci_128 : Jvm.Cond.code yX10_isName cX10_isName 1 (some .boolean) ∈ gW := List.mem_filter.mpr ⟨tbl_at (i := 951) rfl, rfl⟩
set_option maxRecDepth 20000 in
theorem ci_129 : Jvm.Cond.code yX10_isBinder cX10_isBinder 1 (some .boolean) ∈ gW := List.mem_filter.mpr ⟨tbl_at (i := 1012) rfl, rfl⟩
set_option maxRecDepth 20000 in
theorem ci_130 : Jvm.Cond.code yX10_isShelf cX10_isShelf 1 (some .boolean) ∈ gW := List.mem_filter.mpr ⟨tbl_at (i := 942) rfl, rfl⟩
set_option maxRecDepth 20000 in
theorem ci_131 : Jvm.Cond.code yX10_sizeOf cX10_sizeOf 2 (some .int) ∈ gW := List.mem_filter.mpr ⟨tbl_at (i := 996) rfl, rfl⟩
set_option maxRecDepth 20000 in
theorem ci_132 : Jvm.Cond.code yX10_push cX10_push 2 none ∈ gW := List.mem_filter.mpr ⟨tbl_at (i := 1028) rfl, rfl⟩
set_option maxRecDepth 20000 in
theorem ci_133 : Jvm.Cond.code yX10_pop cX10_pop 1 (some .int) ∈ gW := List.mem_filter.mpr ⟨tbl_at (i := 1032) rfl, rfl⟩
set_option maxRecDepth 20000 in
theorem ci_134 : Jvm.Cond.code yX10_make cX10_make 2 none ∈ gW := List.mem_filter.mpr ⟨tbl_at (i := 1020) rfl, rfl⟩
set_option maxRecDepth 20000 in
theorem ci_135 : Jvm.Cond.code yX10_copyRow cX10_copyRow 4 none ∈ gW := List.mem_filter.mpr ⟨tbl_at (i := 984) rfl, rfl⟩
set_option maxRecDepth 20000 in
theorem ci_136 : Jvm.Cond.code yX10_take cX10_take 3 none ∈ gW := List.mem_filter.mpr ⟨tbl_at (i := 1001) rfl, rfl⟩
set_option maxRecDepth 20000 in
theorem ci_137 : Jvm.Cond.code yX10_keepPast cX10_keepPast 2 none ∈ gW := List.mem_filter.mpr ⟨tbl_at (i := 980) rfl, rfl⟩
set_option maxRecDepth 20000 in
theorem ci_138 : Jvm.Cond.code yX10_lay cX10_lay 3 (some .int) ∈ gW := List.mem_filter.mpr ⟨tbl_at (i := 976) rfl, rfl⟩
set_option maxRecDepth 20000 in
theorem ci_139 : Jvm.Cond.code yX10_takeMade cX10_takeMade 2 none ∈ gW := List.mem_filter.mpr ⟨tbl_at (i := 1044) rfl, rfl⟩
set_option maxRecDepth 20000 in
theorem ci_140 : Jvm.Cond.code yX10_feed cX10_feed 2 (some .int) ∈ gW := List.mem_filter.mpr ⟨tbl_at (i := 929) rfl, rfl⟩
set_option maxRecDepth 20000 in
theorem ci_141 : Jvm.Cond.code yX10_open cX10_open 2 none ∈ gW := List.mem_filter.mpr ⟨tbl_at (i := 957) rfl, rfl⟩
set_option maxRecDepth 20000 in
theorem ci_142 : Jvm.Cond.code yX10_hasTerm cX10_hasTerm 1 (some .boolean) ∈ gW := List.mem_filter.mpr ⟨tbl_at (i := 965) rfl, rfl⟩
set_option maxRecDepth 20000 in
theorem ci_143 : Jvm.Cond.code yX10_putAhead cX10_putAhead 2 none ∈ gW := List.mem_filter.mpr ⟨tbl_at (i := 972) rfl, rfl⟩
set_option maxRecDepth 20000 in
theorem ci_144 : Jvm.Cond.code yX10_signOf cX10_signOf 1 (some .int) ∈ gW := List.mem_filter.mpr ⟨tbl_at (i := 968) rfl, rfl⟩
set_option maxRecDepth 20000 in
theorem ci_145 : Jvm.Cond.code yX10_ends cX10_ends 3 (some .boolean) ∈ gW := List.mem_filter.mpr ⟨tbl_at (i := 961) rfl, rfl⟩
set_option maxRecDepth 20000 in
theorem ci_146 : Jvm.Cond.code yX10_reads cX10_reads 3 (some .int) ∈ gW := List.mem_filter.mpr ⟨tbl_at (i := 948) rfl, rfl⟩
set_option maxRecDepth 20000 in
theorem ci_147 : Jvm.Cond.code yX10_term cX10_term 4 (some .int) ∈ gW := List.mem_filter.mpr ⟨tbl_at (i := 939) rfl, rfl⟩
set_option maxRecDepth 20000 in
theorem ci_148 : Jvm.Cond.code yX10_fault cX10_fault 1 (some .int) ∈ gW := List.mem_filter.mpr ⟨tbl_at (i := 988) rfl, rfl⟩
set_option maxRecDepth 20000 in
theorem ci_149 : Jvm.Cond.code yX10_behind cX10_behind 4 (some .int) ∈ gW := List.mem_filter.mpr ⟨tbl_at (i := 1016) rfl, rfl⟩
set_option maxRecDepth 20000 in
theorem ci_150 : Jvm.Cond.code yX10_isFree cX10_isFree 5 (some .boolean) ∈ gW := List.mem_filter.mpr ⟨tbl_at (i := 1040) rfl, rfl⟩
set_option maxRecDepth 20000 in
theorem ci_151 : Jvm.Cond.code yX10_copyTerm cX10_copyTerm 4 none ∈ gW := List.mem_filter.mpr ⟨tbl_at (i := 1036) rfl, rfl⟩
set_option maxRecDepth 20000 in
theorem ci_152 : Jvm.Cond.code yX10_takesOut cX10_takesOut 9 none ∈ gW := List.mem_filter.mpr ⟨tbl_at (i := 1024) rfl, rfl⟩
set_option maxRecDepth 20000 in
theorem ci_153 : Jvm.Cond.code yX10_lastBinder cX10_lastBinder 2 (some .int) ∈ gW := List.mem_filter.mpr ⟨tbl_at (i := 1009) rfl, rfl⟩
set_option maxRecDepth 20000 in
theorem ci_154 : Jvm.Cond.code yX10_compiles cX10_compiles 4 none ∈ gW := List.mem_filter.mpr ⟨tbl_at (i := 1005) rfl, rfl⟩
set_option maxRecDepth 20000 in
theorem ci_155 : Jvm.Cond.code yX10_compile cX10_compile 2 (some .int) ∈ gW := List.mem_filter.mpr ⟨tbl_at (i := 992) rfl, rfl⟩
set_option maxRecDepth 20000 in
theorem ci_156 : Jvm.Cond.code yX10_takeOut cX10_takeOut 3 (some .int) ∈ gW := List.mem_filter.mpr ⟨tbl_at (i := 1048) rfl, rfl⟩
set_option maxRecDepth 20000 in
theorem ci_157 : Jvm.Cond.code yX10_copyShelf cX10_copyShelf 3 none ∈ gW := List.mem_filter.mpr ⟨tbl_at (i := 1056) rfl, rfl⟩
set_option maxRecDepth 20000 in
theorem ci_158 : Jvm.Cond.code yX10_put cX10_put 4 (some .int) ∈ gW := List.mem_filter.mpr ⟨tbl_at (i := 1052) rfl, rfl⟩
set_option maxRecDepth 20000 in
theorem ci_159 : Jvm.Cond.code yX10_hasBinders cX10_hasBinders 4 (some .boolean) ∈ gW := List.mem_filter.mpr ⟨tbl_at (i := 1068) rfl, rfl⟩
set_option maxRecDepth 20000 in
theorem ci_160 : Jvm.Cond.code yX10_isPlain cX10_isPlain 2 (some .boolean) ∈ gW := List.mem_filter.mpr ⟨tbl_at (i := 1064) rfl, rfl⟩
set_option maxRecDepth 20000 in
theorem ci_161 : Jvm.Cond.code yX10_putIn cX10_putIn 5 (some .int) ∈ gW := List.mem_filter.mpr ⟨tbl_at (i := 1060) rfl, rfl⟩
set_option maxRecDepth 20000 in
theorem ci_162 : Jvm.Cond.code yX10_drop cX10_drop 3 (some .int) ∈ gW := List.mem_filter.mpr ⟨tbl_at (i := 1072) rfl, rfl⟩
set_option maxRecDepth 20000 in
theorem ci_163 : Jvm.Cond.code yX10_drift cX10_drift 8 (some .int) ∈ gW := List.mem_filter.mpr ⟨tbl_at (i := 1076) rfl, rfl⟩
set_option maxRecDepth 20000 in
theorem ci_164 : Jvm.Cond.code yX10_undo cX10_undo 1 (some .int) ∈ gW := List.mem_filter.mpr ⟨tbl_at (i := 1086) rfl, rfl⟩
set_option maxRecDepth 20000 in
theorem ci_165 : Jvm.Cond.code yX10_wants cX10_wants 1 (some .int) ∈ gW := List.mem_filter.mpr ⟨tbl_at (i := 1106) rfl, rfl⟩
set_option maxRecDepth 20000 in
theorem ci_166 : Jvm.Cond.code yX10_finds cX10_finds 8 (some .boolean) ∈ gW := List.mem_filter.mpr ⟨tbl_at (i := 1103) rfl, rfl⟩
set_option maxRecDepth 20000 in
theorem ci_167 : Jvm.Cond.code yX10_does cX10_does 4 none ∈ gW := List.mem_filter.mpr ⟨tbl_at (i := 1110) rfl, rfl⟩
set_option maxRecDepth 20000 in
theorem ci_168 : Jvm.Cond.code yX10_worksPlainly cX10_worksPlainly 3 (some .int) ∈ gW := List.mem_filter.mpr ⟨tbl_at (i := 1099) rfl, rfl⟩
set_option maxRecDepth 20000 in
theorem ci_169 : Jvm.Cond.code yX10_thing cX10_thing 4 (some .int) ∈ gW := List.mem_filter.mpr ⟨tbl_at (i := 1122) rfl, rfl⟩
set_option maxRecDepth 20000 in
theorem ci_170 : Jvm.Cond.code yX10_real cX10_real 3 (some .int) ∈ gW := List.mem_filter.mpr ⟨tbl_at (i := 1130) rfl, rfl⟩
set_option maxRecDepth 20000 in
theorem ci_171 : Jvm.Cond.code yX10_layThings cX10_layThings 4 (some .int) ∈ gW := List.mem_filter.mpr ⟨tbl_at (i := 1118) rfl, rfl⟩
set_option maxRecDepth 20000 in
theorem ci_172 : Jvm.Cond.code yX10_writeOut cX10_writeOut 3 none ∈ gW := List.mem_filter.mpr ⟨tbl_at (i := 1142) rfl, rfl⟩
set_option maxRecDepth 20000 in
theorem ci_173 : Jvm.Cond.code yX10_doesShared cX10_doesShared 6 (some .boolean) ∈ gW := List.mem_filter.mpr ⟨tbl_at (i := 1134) rfl, rfl⟩
set_option maxRecDepth 20000 in
theorem ci_174 : Jvm.Cond.code yX10_changes cX10_changes 7 none ∈ gW := List.mem_filter.mpr ⟨tbl_at (i := 1138) rfl, rfl⟩
set_option maxRecDepth 20000 in
theorem ci_175 : Jvm.Cond.code yX10_hasStep cX10_hasStep 5 (some .boolean) ∈ gW := List.mem_filter.mpr ⟨tbl_at (i := 1126) rfl, rfl⟩
set_option maxRecDepth 20000 in
theorem ci_176 : Jvm.Cond.code yX10_worksShared cX10_worksShared 4 (some .int) ∈ gW := List.mem_filter.mpr ⟨tbl_at (i := 1114) rfl, rfl⟩
set_option maxRecDepth 20000 in
theorem ci_177 : Jvm.Cond.code yX10_works cX10_works 3 (some .int) ∈ gW := List.mem_filter.mpr ⟨tbl_at (i := 1095) rfl, rfl⟩
set_option maxRecDepth 20000 in
theorem ci_178 : Jvm.Cond.code yX10_work cX10_work 5 (some .int) ∈ gW := List.mem_filter.mpr ⟨tbl_at (i := 1090) rfl, rfl⟩
set_option maxRecDepth 20000 in
theorem ci_179 : Jvm.Cond.code yX10_steps cX10_steps 4 (some .int) ∈ gW := List.mem_filter.mpr ⟨tbl_at (i := 1146) rfl, rfl⟩
set_option maxRecDepth 20000 in
theorem ci_180 : Jvm.Cond.code yX10_kind2 cX10_kind2 3 (some .int) ∈ gW := List.mem_filter.mpr ⟨tbl_at (i := 1198) rfl, rfl⟩
set_option maxRecDepth 20000 in
theorem ci_181 : Jvm.Cond.code yX10_unknown cX10_unknown 1 (some .int) ∈ gW := List.mem_filter.mpr ⟨tbl_at (i := 1194) rfl, rfl⟩
set_option maxRecDepth 20000 in
theorem ci_182 : Jvm.Cond.code yX10_realKind cX10_realKind 3 (some .int) ∈ gW := List.mem_filter.mpr ⟨tbl_at (i := 1206) rfl, rfl⟩
set_option maxRecDepth 20000 in
theorem ci_183 : Jvm.Cond.code yX10_kindOfSign cX10_kindOfSign 7 (some .int) ∈ gW := List.mem_filter.mpr ⟨tbl_at (i := 1214) rfl, rfl⟩
set_option maxRecDepth 20000 in
theorem ci_184 : Jvm.Cond.code yX10_kindOfName cX10_kindOfName 4 (some .int) ∈ gW := List.mem_filter.mpr ⟨tbl_at (i := 1210) rfl, rfl⟩
set_option maxRecDepth 20000 in
theorem ci_185 : Jvm.Cond.code yX10_meet cX10_meet 7 none ∈ gW := List.mem_filter.mpr ⟨tbl_at (i := 1202) rfl, rfl⟩
set_option maxRecDepth 20000 in
theorem ci_186 : Jvm.Cond.code yX10_areSound cX10_areSound 5 (some .boolean) ∈ gW := List.mem_filter.mpr ⟨tbl_at (i := 1218) rfl, rfl⟩
set_option maxRecDepth 20000 in
theorem ci_187 : Jvm.Cond.code yX10_kindOf cX10_kindOf 6 (some .int) ∈ gW := List.mem_filter.mpr ⟨tbl_at (i := 1190) rfl, rfl⟩
set_option maxRecDepth 20000 in
theorem ci_188 : Jvm.Cond.code yX10_write cX10_write 2 none ∈ gW := List.mem_filter.mpr ⟨tbl_at (i := 1171) rfl, rfl⟩
set_option maxRecDepth 20000 in
theorem ci_189 : Jvm.Cond.code yX10_writeKind cX10_writeKind 6 (some .int) ∈ gW := List.mem_filter.mpr ⟨tbl_at (i := 1222) rfl, rfl⟩
set_option maxRecDepth 20000 in
theorem ci_190 : Jvm.Cond.code yX10_writeTerm cX10_writeTerm 3 none ∈ gW := List.mem_filter.mpr ⟨tbl_at (i := 1167) rfl, rfl⟩
set_option maxRecDepth 20000 in
theorem ci_191 : Jvm.Cond.code yX10_letterOfSign cX10_letterOfSign 1 (some .int) ∈ gW := List.mem_filter.mpr ⟨tbl_at (i := 1182) rfl, rfl⟩
set_option maxRecDepth 20000 in
theorem ci_192 : Jvm.Cond.code yX10_pushIn cX10_pushIn 3 none ∈ gW := List.mem_filter.mpr ⟨tbl_at (i := 1179) rfl, rfl⟩
set_option maxRecDepth 20000 in
theorem ci_193 : Jvm.Cond.code yX10_writePut cX10_writePut 3 none ∈ gW := List.mem_filter.mpr ⟨tbl_at (i := 1175) rfl, rfl⟩
set_option maxRecDepth 20000 in
theorem ci_194 : Jvm.Cond.code yX10_told cX10_told 4 (some .int) ∈ gW := List.mem_filter.mpr ⟨tbl_at (i := 1150) rfl, rfl⟩
set_option maxRecDepth 20000 in
theorem ci_195 : Jvm.Cond.code yX10_freeNames cX10_freeNames 3 (some .int) ∈ gW := List.mem_filter.mpr ⟨tbl_at (i := 1159) rfl, rfl⟩
set_option maxRecDepth 20000 in
theorem ci_196 : Jvm.Cond.code yX10_howMany cX10_howMany 5 (some .int) ∈ gW := List.mem_filter.mpr ⟨tbl_at (i := 1163) rfl, rfl⟩
set_option maxRecDepth 20000 in
theorem ci_197 : Jvm.Cond.code yX10_deepest cX10_deepest 4 (some .int) ∈ gW := List.mem_filter.mpr ⟨tbl_at (i := 1186) rfl, rfl⟩
set_option maxRecDepth 20000 in
theorem ci_198 : Jvm.Cond.code yX10_of cX10_of 3 (some .int) ∈ gW := List.mem_filter.mpr ⟨tbl_at (i := 1154) rfl, rfl⟩
set_option maxRecDepth 20000 in
theorem ci_199 : Jvm.Cond.code yX10_sign cX10_sign 3 (some .int) ∈ gW := List.mem_filter.mpr ⟨tbl_at (i := 1226) rfl, rfl⟩
set_option maxRecDepth 20000 in
theorem ci_200 : Jvm.Cond.code yX10_kind cX10_kind 4 (some .int) ∈ gW := List.mem_filter.mpr ⟨tbl_at (i := 1230) rfl, rfl⟩
set_option maxRecDepth 20000 in
theorem ci_201 : Jvm.Cond.code yX10_same cX10_same 5 (some .int) ∈ gW := List.mem_filter.mpr ⟨tbl_at (i := 1234) rfl, rfl⟩
set_option maxRecDepth 20000 in
theorem ci_202 : Jvm.Cond.code yX10_sameKind cX10_sameKind 7 (some .int) ∈ gW := List.mem_filter.mpr ⟨tbl_at (i := 1238) rfl, rfl⟩
set_option maxRecDepth 20000 in
theorem ci_203 : Jvm.Cond.code yX10_keep cX10_keep 2 (some .int) ∈ gW := List.mem_filter.mpr ⟨tbl_at (i := 1242) rfl, rfl⟩
set_option maxRecDepth 20000 in
theorem ci_204 : Jvm.Cond.code yX10_goBack cX10_goBack 2 (some .int) ∈ gW := List.mem_filter.mpr ⟨tbl_at (i := 1246) rfl, rfl⟩
set_option maxRecDepth 20000 in
theorem code_in : ∀ me ∈ mtab, Jvm.Cond.code me.2.1 me.2.2.1 me.2.2.2.1 me.2.2.2.2.1 ∈ gW := by
  unfold mtab
  refine List.forall_mem_cons.mpr ⟨ci_0, ?_⟩
  refine List.forall_mem_cons.mpr ⟨ci_1, ?_⟩
  refine List.forall_mem_cons.mpr ⟨ci_2, ?_⟩
  refine List.forall_mem_cons.mpr ⟨ci_3, ?_⟩
  refine List.forall_mem_cons.mpr ⟨ci_4, ?_⟩
  refine List.forall_mem_cons.mpr ⟨ci_5, ?_⟩
  refine List.forall_mem_cons.mpr ⟨ci_6, ?_⟩
  refine List.forall_mem_cons.mpr ⟨ci_7, ?_⟩
  refine List.forall_mem_cons.mpr ⟨ci_8, ?_⟩
  refine List.forall_mem_cons.mpr ⟨ci_9, ?_⟩
  refine List.forall_mem_cons.mpr ⟨ci_10, ?_⟩
  refine List.forall_mem_cons.mpr ⟨ci_11, ?_⟩
  refine List.forall_mem_cons.mpr ⟨ci_12, ?_⟩
  refine List.forall_mem_cons.mpr ⟨ci_13, ?_⟩
  refine List.forall_mem_cons.mpr ⟨ci_14, ?_⟩
  refine List.forall_mem_cons.mpr ⟨ci_15, ?_⟩
  refine List.forall_mem_cons.mpr ⟨ci_16, ?_⟩
  refine List.forall_mem_cons.mpr ⟨ci_17, ?_⟩
  refine List.forall_mem_cons.mpr ⟨ci_18, ?_⟩
  refine List.forall_mem_cons.mpr ⟨ci_19, ?_⟩
  refine List.forall_mem_cons.mpr ⟨ci_20, ?_⟩
  refine List.forall_mem_cons.mpr ⟨ci_21, ?_⟩
  refine List.forall_mem_cons.mpr ⟨ci_22, ?_⟩
  refine List.forall_mem_cons.mpr ⟨ci_23, ?_⟩
  refine List.forall_mem_cons.mpr ⟨ci_24, ?_⟩
  refine List.forall_mem_cons.mpr ⟨ci_25, ?_⟩
  refine List.forall_mem_cons.mpr ⟨ci_26, ?_⟩
  refine List.forall_mem_cons.mpr ⟨ci_27, ?_⟩
  refine List.forall_mem_cons.mpr ⟨ci_28, ?_⟩
  refine List.forall_mem_cons.mpr ⟨ci_29, ?_⟩
  refine List.forall_mem_cons.mpr ⟨ci_30, ?_⟩
  refine List.forall_mem_cons.mpr ⟨ci_31, ?_⟩
  refine List.forall_mem_cons.mpr ⟨ci_32, ?_⟩
  refine List.forall_mem_cons.mpr ⟨ci_33, ?_⟩
  refine List.forall_mem_cons.mpr ⟨ci_34, ?_⟩
  refine List.forall_mem_cons.mpr ⟨ci_35, ?_⟩
  refine List.forall_mem_cons.mpr ⟨ci_36, ?_⟩
  refine List.forall_mem_cons.mpr ⟨ci_37, ?_⟩
  refine List.forall_mem_cons.mpr ⟨ci_38, ?_⟩
  refine List.forall_mem_cons.mpr ⟨ci_39, ?_⟩
  refine List.forall_mem_cons.mpr ⟨ci_40, ?_⟩
  refine List.forall_mem_cons.mpr ⟨ci_41, ?_⟩
  refine List.forall_mem_cons.mpr ⟨ci_42, ?_⟩
  refine List.forall_mem_cons.mpr ⟨ci_43, ?_⟩
  refine List.forall_mem_cons.mpr ⟨ci_44, ?_⟩
  refine List.forall_mem_cons.mpr ⟨ci_45, ?_⟩
  refine List.forall_mem_cons.mpr ⟨ci_46, ?_⟩
  refine List.forall_mem_cons.mpr ⟨ci_47, ?_⟩
  refine List.forall_mem_cons.mpr ⟨ci_48, ?_⟩
  refine List.forall_mem_cons.mpr ⟨ci_49, ?_⟩
  refine List.forall_mem_cons.mpr ⟨ci_50, ?_⟩
  refine List.forall_mem_cons.mpr ⟨ci_51, ?_⟩
  refine List.forall_mem_cons.mpr ⟨ci_52, ?_⟩
  refine List.forall_mem_cons.mpr ⟨ci_53, ?_⟩
  refine List.forall_mem_cons.mpr ⟨ci_54, ?_⟩
  refine List.forall_mem_cons.mpr ⟨ci_55, ?_⟩
  refine List.forall_mem_cons.mpr ⟨ci_56, ?_⟩
  refine List.forall_mem_cons.mpr ⟨ci_57, ?_⟩
  refine List.forall_mem_cons.mpr ⟨ci_58, ?_⟩
  refine List.forall_mem_cons.mpr ⟨ci_59, ?_⟩
  refine List.forall_mem_cons.mpr ⟨ci_60, ?_⟩
  refine List.forall_mem_cons.mpr ⟨ci_61, ?_⟩
  refine List.forall_mem_cons.mpr ⟨ci_62, ?_⟩
  refine List.forall_mem_cons.mpr ⟨ci_63, ?_⟩
  refine List.forall_mem_cons.mpr ⟨ci_64, ?_⟩
  refine List.forall_mem_cons.mpr ⟨ci_65, ?_⟩
  refine List.forall_mem_cons.mpr ⟨ci_66, ?_⟩
  refine List.forall_mem_cons.mpr ⟨ci_67, ?_⟩
  refine List.forall_mem_cons.mpr ⟨ci_68, ?_⟩
  refine List.forall_mem_cons.mpr ⟨ci_69, ?_⟩
  refine List.forall_mem_cons.mpr ⟨ci_70, ?_⟩
  refine List.forall_mem_cons.mpr ⟨ci_71, ?_⟩
  refine List.forall_mem_cons.mpr ⟨ci_72, ?_⟩
  refine List.forall_mem_cons.mpr ⟨ci_73, ?_⟩
  refine List.forall_mem_cons.mpr ⟨ci_74, ?_⟩
  refine List.forall_mem_cons.mpr ⟨ci_75, ?_⟩
  refine List.forall_mem_cons.mpr ⟨ci_76, ?_⟩
  refine List.forall_mem_cons.mpr ⟨ci_77, ?_⟩
  refine List.forall_mem_cons.mpr ⟨ci_78, ?_⟩
  refine List.forall_mem_cons.mpr ⟨ci_79, ?_⟩
  refine List.forall_mem_cons.mpr ⟨ci_80, ?_⟩
  refine List.forall_mem_cons.mpr ⟨ci_81, ?_⟩
  refine List.forall_mem_cons.mpr ⟨ci_82, ?_⟩
  refine List.forall_mem_cons.mpr ⟨ci_83, ?_⟩
  refine List.forall_mem_cons.mpr ⟨ci_84, ?_⟩
  refine List.forall_mem_cons.mpr ⟨ci_85, ?_⟩
  refine List.forall_mem_cons.mpr ⟨ci_86, ?_⟩
  refine List.forall_mem_cons.mpr ⟨ci_87, ?_⟩
  refine List.forall_mem_cons.mpr ⟨ci_88, ?_⟩
  refine List.forall_mem_cons.mpr ⟨ci_89, ?_⟩
  refine List.forall_mem_cons.mpr ⟨ci_90, ?_⟩
  refine List.forall_mem_cons.mpr ⟨ci_91, ?_⟩
  refine List.forall_mem_cons.mpr ⟨ci_92, ?_⟩
  refine List.forall_mem_cons.mpr ⟨ci_93, ?_⟩
  refine List.forall_mem_cons.mpr ⟨ci_94, ?_⟩
  refine List.forall_mem_cons.mpr ⟨ci_95, ?_⟩
  refine List.forall_mem_cons.mpr ⟨ci_96, ?_⟩
  refine List.forall_mem_cons.mpr ⟨ci_97, ?_⟩
  refine List.forall_mem_cons.mpr ⟨ci_98, ?_⟩
  refine List.forall_mem_cons.mpr ⟨ci_99, ?_⟩
  refine List.forall_mem_cons.mpr ⟨ci_100, ?_⟩
  refine List.forall_mem_cons.mpr ⟨ci_101, ?_⟩
  refine List.forall_mem_cons.mpr ⟨ci_102, ?_⟩
  refine List.forall_mem_cons.mpr ⟨ci_103, ?_⟩
  refine List.forall_mem_cons.mpr ⟨ci_104, ?_⟩
  refine List.forall_mem_cons.mpr ⟨ci_105, ?_⟩
  refine List.forall_mem_cons.mpr ⟨ci_106, ?_⟩
  refine List.forall_mem_cons.mpr ⟨ci_107, ?_⟩
  refine List.forall_mem_cons.mpr ⟨ci_108, ?_⟩
  refine List.forall_mem_cons.mpr ⟨ci_109, ?_⟩
  refine List.forall_mem_cons.mpr ⟨ci_110, ?_⟩
  refine List.forall_mem_cons.mpr ⟨ci_111, ?_⟩
  refine List.forall_mem_cons.mpr ⟨ci_112, ?_⟩
  refine List.forall_mem_cons.mpr ⟨ci_113, ?_⟩
  refine List.forall_mem_cons.mpr ⟨ci_114, ?_⟩
  refine List.forall_mem_cons.mpr ⟨ci_115, ?_⟩
  refine List.forall_mem_cons.mpr ⟨ci_116, ?_⟩
  refine List.forall_mem_cons.mpr ⟨ci_117, ?_⟩
  refine List.forall_mem_cons.mpr ⟨ci_118, ?_⟩
  refine List.forall_mem_cons.mpr ⟨ci_119, ?_⟩
  refine List.forall_mem_cons.mpr ⟨ci_120, ?_⟩
  refine List.forall_mem_cons.mpr ⟨ci_121, ?_⟩
  refine List.forall_mem_cons.mpr ⟨ci_122, ?_⟩
  refine List.forall_mem_cons.mpr ⟨ci_123, ?_⟩
  refine List.forall_mem_cons.mpr ⟨ci_124, ?_⟩
  refine List.forall_mem_cons.mpr ⟨ci_125, ?_⟩
  refine List.forall_mem_cons.mpr ⟨ci_126, ?_⟩
  refine List.forall_mem_cons.mpr ⟨ci_127, ?_⟩
  refine List.forall_mem_cons.mpr ⟨ci_128, ?_⟩
  refine List.forall_mem_cons.mpr ⟨ci_129, ?_⟩
  refine List.forall_mem_cons.mpr ⟨ci_130, ?_⟩
  refine List.forall_mem_cons.mpr ⟨ci_131, ?_⟩
  refine List.forall_mem_cons.mpr ⟨ci_132, ?_⟩
  refine List.forall_mem_cons.mpr ⟨ci_133, ?_⟩
  refine List.forall_mem_cons.mpr ⟨ci_134, ?_⟩
  refine List.forall_mem_cons.mpr ⟨ci_135, ?_⟩
  refine List.forall_mem_cons.mpr ⟨ci_136, ?_⟩
  refine List.forall_mem_cons.mpr ⟨ci_137, ?_⟩
  refine List.forall_mem_cons.mpr ⟨ci_138, ?_⟩
  refine List.forall_mem_cons.mpr ⟨ci_139, ?_⟩
  refine List.forall_mem_cons.mpr ⟨ci_140, ?_⟩
  refine List.forall_mem_cons.mpr ⟨ci_141, ?_⟩
  refine List.forall_mem_cons.mpr ⟨ci_142, ?_⟩
  refine List.forall_mem_cons.mpr ⟨ci_143, ?_⟩
  refine List.forall_mem_cons.mpr ⟨ci_144, ?_⟩
  refine List.forall_mem_cons.mpr ⟨ci_145, ?_⟩
  refine List.forall_mem_cons.mpr ⟨ci_146, ?_⟩
  refine List.forall_mem_cons.mpr ⟨ci_147, ?_⟩
  refine List.forall_mem_cons.mpr ⟨ci_148, ?_⟩
  refine List.forall_mem_cons.mpr ⟨ci_149, ?_⟩
  refine List.forall_mem_cons.mpr ⟨ci_150, ?_⟩
  refine List.forall_mem_cons.mpr ⟨ci_151, ?_⟩
  refine List.forall_mem_cons.mpr ⟨ci_152, ?_⟩
  refine List.forall_mem_cons.mpr ⟨ci_153, ?_⟩
  refine List.forall_mem_cons.mpr ⟨ci_154, ?_⟩
  refine List.forall_mem_cons.mpr ⟨ci_155, ?_⟩
  refine List.forall_mem_cons.mpr ⟨ci_156, ?_⟩
  refine List.forall_mem_cons.mpr ⟨ci_157, ?_⟩
  refine List.forall_mem_cons.mpr ⟨ci_158, ?_⟩
  refine List.forall_mem_cons.mpr ⟨ci_159, ?_⟩
  refine List.forall_mem_cons.mpr ⟨ci_160, ?_⟩
  refine List.forall_mem_cons.mpr ⟨ci_161, ?_⟩
  refine List.forall_mem_cons.mpr ⟨ci_162, ?_⟩
  refine List.forall_mem_cons.mpr ⟨ci_163, ?_⟩
  refine List.forall_mem_cons.mpr ⟨ci_164, ?_⟩
  refine List.forall_mem_cons.mpr ⟨ci_165, ?_⟩
  refine List.forall_mem_cons.mpr ⟨ci_166, ?_⟩
  refine List.forall_mem_cons.mpr ⟨ci_167, ?_⟩
  refine List.forall_mem_cons.mpr ⟨ci_168, ?_⟩
  refine List.forall_mem_cons.mpr ⟨ci_169, ?_⟩
  refine List.forall_mem_cons.mpr ⟨ci_170, ?_⟩
  refine List.forall_mem_cons.mpr ⟨ci_171, ?_⟩
  refine List.forall_mem_cons.mpr ⟨ci_172, ?_⟩
  refine List.forall_mem_cons.mpr ⟨ci_173, ?_⟩
  refine List.forall_mem_cons.mpr ⟨ci_174, ?_⟩
  refine List.forall_mem_cons.mpr ⟨ci_175, ?_⟩
  refine List.forall_mem_cons.mpr ⟨ci_176, ?_⟩
  refine List.forall_mem_cons.mpr ⟨ci_177, ?_⟩
  refine List.forall_mem_cons.mpr ⟨ci_178, ?_⟩
  refine List.forall_mem_cons.mpr ⟨ci_179, ?_⟩
  refine List.forall_mem_cons.mpr ⟨ci_180, ?_⟩
  refine List.forall_mem_cons.mpr ⟨ci_181, ?_⟩
  refine List.forall_mem_cons.mpr ⟨ci_182, ?_⟩
  refine List.forall_mem_cons.mpr ⟨ci_183, ?_⟩
  refine List.forall_mem_cons.mpr ⟨ci_184, ?_⟩
  refine List.forall_mem_cons.mpr ⟨ci_185, ?_⟩
  refine List.forall_mem_cons.mpr ⟨ci_186, ?_⟩
  refine List.forall_mem_cons.mpr ⟨ci_187, ?_⟩
  refine List.forall_mem_cons.mpr ⟨ci_188, ?_⟩
  refine List.forall_mem_cons.mpr ⟨ci_189, ?_⟩
  refine List.forall_mem_cons.mpr ⟨ci_190, ?_⟩
  refine List.forall_mem_cons.mpr ⟨ci_191, ?_⟩
  refine List.forall_mem_cons.mpr ⟨ci_192, ?_⟩
  refine List.forall_mem_cons.mpr ⟨ci_193, ?_⟩
  refine List.forall_mem_cons.mpr ⟨ci_194, ?_⟩
  refine List.forall_mem_cons.mpr ⟨ci_195, ?_⟩
  refine List.forall_mem_cons.mpr ⟨ci_196, ?_⟩
  refine List.forall_mem_cons.mpr ⟨ci_197, ?_⟩
  refine List.forall_mem_cons.mpr ⟨ci_198, ?_⟩
  refine List.forall_mem_cons.mpr ⟨ci_199, ?_⟩
  refine List.forall_mem_cons.mpr ⟨ci_200, ?_⟩
  refine List.forall_mem_cons.mpr ⟨ci_201, ?_⟩
  refine List.forall_mem_cons.mpr ⟨ci_202, ?_⟩
  refine List.forall_mem_cons.mpr ⟨ci_203, ?_⟩
  refine List.forall_mem_cons.mpr ⟨ci_204, ?_⟩
  exact fun _ h => absurd h List.not_mem_nil
theorem maxL_in : ∀ me ∈ mtab, me.2.2.2.1 ≤ 9 ∧ me.1 < 11 ∧ me.2.1.cls = cnm me.1 ∧ (parseMethodDescriptor me.2.1.desc).map (fun d => d.parameters.length) = some me.2.2.2.2.2.2.1 ∧ me.2.1.cls ≠ "java/lang/invoke/MethodHandle" ∧ me.2.1.cls ≠ "java/lang/invoke/VarHandle" ∧ plainName me.2.1.cls = true := by decide +kernel
theorem ini_in : ∀ c, c < 11 → Jvm.Cond.initialized (cnm c) ∈ gW := by decide +kernel
def kV_ck (q : (Nat × Nat) × Nat) (ps : List Nat) : Bool := match mtab[q.2]? with
  | some me => inP (ps.getD 0 0) (.methodLink (cnm q.1.1) q.1.2 me.2.1) && inP (ps.getD 1 0) (.instanceMethod me.2.1) && inP (ps.getD 2 0) (.selects (cnm me.1) me.2.1 me.2.1) && !me.2.2.2.2.2.2.2
  | none => false
def kV_c0 : List (((Nat × Nat) × Nat) × List Nat) := [(((0, 30), 40), [607, 480, 481]), (((0, 34), 80), [608, 609, 610]), (((0, 37), 5), [622, 624, 19]), (((0, 41), 3), [629, 630, 631]), (((0, 45), 81), [633, 634, 635]), (((0, 49), 6), [652, 654, 23]), (((0, 51), 28), [626, 373, 374]), (((0, 54), 30), [627, 404, 405]), (((0, 61), 7), [656, 658, 24]), (((0, 64), 29), [660, 394, 395]), (((0, 67), 39), [661, 489, 490]), (((0, 71), 34), [662, 378, 379]), (((1, 27), 14), [475, 477, 10]), (((1, 30), 40), [479, 480, 481]), (((2, 27), 29), [393, 394, 395]), (((2, 36), 26), [397, 399, 0])]
theorem kV_k0 : ∀ q ∈ kV_c0, kV_ck q.1 q.2 = true := by decide +kernel
def kV_c1 : List (((Nat × Nat) × Nat) × List Nat) := [(((2, 40), 28), [402, 373, 374]), (((2, 44), 30), [403, 404, 405]), (((2, 48), 18), [407, 409, 1]), (((2, 52), 25), [430, 432, 5]), (((2, 56), 19), [411, 413, 2]), (((2, 59), 20), [422, 424, 3]), (((2, 62), 22), [426, 428, 4]), (((2, 66), 21), [443, 445, 6]), (((2, 69), 23), [455, 457, 8]), (((2, 79), 33), [418, 419, 420]), (((2, 82), 24), [447, 449, 7]), (((2, 86), 35), [438, 439, 440]), (((2, 89), 34), [401, 378, 379]), (((2, 92), 32), [434, 435, 436]), (((2, 95), 36), [451, 452, 453]), (((3, 23), 32), [442, 435, 436])]
theorem kV_k1 : ∀ q ∈ kV_c1, kV_ck q.1 q.2 = true := by decide +kernel
def kV_c2 : List (((Nat × Nat) × Nat) × List Nat) := [(((3, 27), 29), [483, 394, 395]), (((3, 30), 34), [537, 378, 379]), (((3, 34), 39), [488, 489, 490]), (((3, 47), 38), [484, 485, 486]), (((3, 51), 30), [883, 404, 405]), (((4, 30), 67), [739, 529, 530]), (((4, 34), 29), [740, 394, 395]), (((4, 37), 34), [741, 378, 379]), (((4, 40), 28), [742, 373, 374]), (((4, 44), 35), [743, 439, 440]), (((4, 47), 46), [744, 746, 28]), (((4, 51), 30), [748, 404, 405]), (((4, 55), 68), [749, 540, 541]), (((4, 62), 47), [751, 753, 29]), (((5, 48), 67), [769, 529, 530]), (((5, 52), 29), [770, 394, 395])]
theorem kV_k2 : ∀ q ∈ kV_c2, kV_ck q.1 q.2 = true := by decide +kernel
def kV_c3 : List (((Nat × Nat) × Nat) × List Nat) := [(((5, 55), 54), [771, 773, 30]), (((5, 58), 28), [776, 373, 374]), (((5, 62), 30), [777, 404, 405]), (((5, 66), 56), [795, 797, 34]), (((5, 70), 63), [817, 819, 39]), (((5, 74), 50), [834, 766, 767]), (((5, 82), 37), [775, 534, 535]), (((5, 85), 34), [787, 378, 379]), (((5, 88), 35), [803, 439, 440]), (((5, 91), 61), [804, 806, 36]), (((5, 94), 52), [835, 837, 42]), (((5, 97), 60), [808, 810, 37]), (((5, 101), 53), [839, 841, 43]), (((5, 104), 33), [794, 419, 420]), (((5, 110), 58), [779, 781, 31]), (((5, 116), 55), [789, 791, 33])]
theorem kV_k3 : ∀ q ∈ kV_c3, kV_ck q.1 q.2 = true := by decide +kernel
def kV_c4 : List (((Nat × Nat) × Nat) × List Nat) := [(((5, 120), 68), [793, 540, 541]), (((5, 123), 59), [783, 785, 32]), (((5, 127), 62), [799, 801, 35]), (((5, 133), 57), [813, 815, 38]), (((5, 136), 64), [821, 823, 40]), (((5, 139), 32), [825, 435, 436]), (((5, 142), 65), [826, 828, 41]), (((6, 23), 28), [532, 373, 374]), (((6, 27), 37), [533, 534, 535]), (((6, 31), 30), [538, 404, 405]), (((6, 35), 68), [539, 540, 541]), (((6, 38), 33), [543, 419, 420]), (((6, 45), 67), [728, 529, 530]), (((6, 49), 70), [729, 731, 27]), (((7, 33), 40), [516, 480, 481]), (((7, 37), 28), [517, 373, 374])]
theorem kV_k4 : ∀ q ∈ kV_c4, kV_ck q.1 q.2 = true := by decide +kernel
def kV_c5 : List (((Nat × Nat) × Nat) × List Nat) := [(((7, 41), 30), [518, 404, 405]), (((7, 49), 75), [522, 524, 12]), (((7, 53), 29), [526, 394, 395]), (((7, 56), 67), [528, 529, 530]), (((7, 59), 76), [548, 550, 13]), (((7, 63), 39), [527, 489, 490]), (((7, 69), 68), [557, 540, 541]), (((7, 72), 78), [552, 554, 14]), (((7, 75), 34), [559, 378, 379]), (((7, 78), 35), [560, 439, 440]), (((7, 81), 77), [561, 563, 15]), (((7, 84), 37), [556, 534, 535]), (((7, 88), 33), [558, 419, 420]), (((8, 39), 67), [612, 529, 530]), (((8, 43), 29), [613, 394, 395]), (((8, 46), 28), [614, 373, 374])]
theorem kV_k5 : ∀ q ∈ kV_c5, kV_ck q.1 q.2 = true := by decide +kernel
def kV_c6 : List (((Nat × Nat) × Nat) × List Nat) := [(((8, 50), 30), [615, 404, 405]), (((8, 54), 68), [616, 540, 541]), (((8, 57), 82), [617, 619, 18]), (((8, 61), 34), [621, 378, 379]), (((8, 66), 83), [638, 640, 20]), (((8, 70), 33), [642, 419, 420]), (((8, 74), 84), [643, 645, 21]), (((8, 77), 35), [647, 439, 440]), (((8, 80), 85), [648, 650, 22]), (((9, 90), 28), [372, 373, 374]), (((9, 95), 34), [377, 378, 379]), (((9, 103), 17), [389, 390, 391]), (((9, 107), 29), [462, 394, 395]), (((9, 110), 16), [463, 464, 465]), (((9, 113), 107), [467, 469, 9]), (((9, 117), 111), [507, 509, 11])]
theorem kV_k6 : ∀ q ∈ kV_c6, kV_ck q.1 q.2 = true := by decide +kernel
def kV_c7 : List (((Nat × Nat) × Nat) × List Nat) := [(((9, 121), 73), [512, 513, 514]), (((9, 128), 74), [570, 571, 572]), (((9, 132), 38), [578, 485, 486]), (((9, 136), 112), [583, 585, 16]), (((9, 139), 108), [592, 594, 17]), (((9, 146), 1), [603, 604, 605]), (((9, 150), 2), [663, 664, 665]), (((9, 154), 40), [498, 480, 481]), (((9, 158), 109), [676, 678, 25]), (((9, 162), 9), [700, 701, 702]), (((9, 163), 12), [704, 705, 706]), (((9, 166), 13), [708, 709, 710]), (((9, 169), 110), [716, 718, 26]), (((9, 172), 69), [724, 725, 726]), (((9, 179), 45), [735, 736, 737]), (((9, 182), 44), [756, 757, 758])]
theorem kV_k7 : ∀ q ∈ kV_c7, kV_ck q.1 q.2 = true := by decide +kernel
def kV_c8 : List (((Nat × Nat) × Nat) × List Nat) := [(((9, 185), 71), [760, 761, 762]), (((9, 188), 50), [765, 766, 767]), (((9, 192), 51), [830, 831, 832]), (((9, 194), 49), [843, 844, 845]), (((9, 201), 42), [850, 851, 852]), (((9, 204), 31), [858, 859, 860]), (((9, 208), 3), [870, 630, 631]), (((9, 212), 4), [871, 872, 873]), (((9, 215), 41), [879, 880, 881]), (((9, 221), 10), [895, 896, 897]), (((9, 224), 11), [471, 472, 473]), (((9, 228), 30), [590, 404, 405]), (((9, 241), 36), [695, 452, 453]), (((10, 100), 131), [1088, 1090, 52]), (((10, 110), 135), [1076, 1078, 51]), (((10, 115), 137), [1072, 1074, 50])]
theorem kV_k8 : ∀ q ∈ kV_c8, kV_ck q.1 q.2 = true := by decide +kernel
def kV_c9 : List (((Nat × Nat) × Nat) × List Nat) := [(((10, 127), 142), [1057, 1059, 47]), (((10, 138), 141), [1049, 1051, 45]), (((10, 142), 145), [1053, 1055, 46]), (((10, 149), 143), [1064, 1066, 48]), (((10, 156), 146), [1040, 1042, 44]), (((10, 159), 138), [1068, 1070, 49]), (((10, 165), 149), [1108, 1110, 56]), (((10, 168), 134), [1112, 1114, 57]), (((10, 172), 132), [1120, 1122, 59]), (((10, 175), 133), [1124, 1126, 60]), (((10, 179), 151), [1128, 1130, 61]), (((10, 182), 150), [1132, 1134, 62]), (((10, 186), 153), [1101, 1103, 55]), (((10, 189), 152), [1116, 1118, 58]), (((10, 192), 139), [1136, 1138, 63]), (((10, 196), 136), [1093, 1095, 53])]
theorem kV_k9 : ∀ q ∈ kV_c9, kV_ck q.1 q.2 = true := by decide +kernel
def kV_c10 : List (((Nat × Nat) × Nat) × List Nat) := [(((10, 199), 154), [1097, 1099, 54]), (((10, 202), 157), [1148, 1150, 64]), (((10, 205), 159), [1160, 1162, 66]), (((10, 208), 160), [1156, 1158, 65]), (((10, 233), 166), [1195, 1197, 69]), (((10, 239), 167), [1202, 1204, 70]), (((10, 245), 169), [1214, 1216, 73]), (((10, 249), 170), [1222, 1224, 75]), (((10, 252), 174), [1230, 1232, 77]), (((10, 256), 171), [1210, 1212, 72]), (((10, 259), 175), [1218, 1220, 74]), (((10, 262), 173), [1226, 1228, 76]), (((10, 265), 172), [1234, 1236, 78]), (((10, 268), 168), [1191, 1193, 68]), (((10, 271), 176), [1206, 1208, 71]), (((10, 276), 177), [1187, 1189, 67])]
theorem kV_k10 : ∀ q ∈ kV_c10, kV_ck q.1 q.2 = true := by decide +kernel
def kV_c11 : List (((Nat × Nat) × Nat) × List Nat) := [(((10, 283), 180), [1290, 1292, 88]), (((10, 286), 181), [1286, 1288, 87]), (((10, 289), 182), [1298, 1300, 90]), (((10, 292), 185), [1294, 1296, 89]), (((10, 295), 184), [1302, 1304, 91]), (((10, 298), 183), [1306, 1308, 92]), (((10, 301), 186), [1310, 1312, 93]), (((10, 307), 187), [1282, 1284, 86]), (((10, 310), 188), [1263, 1265, 82]), (((10, 313), 193), [1267, 1269, 83]), (((10, 319), 192), [1271, 1273, 84]), (((10, 325), 195), [1251, 1253, 79]), (((10, 328), 196), [1255, 1257, 80]), (((10, 331), 190), [1259, 1261, 81]), (((10, 334), 197), [1278, 1280, 85]), (((10, 337), 189), [1314, 1316, 94])]
theorem kV_k11 : ∀ q ∈ kV_c11, kV_ck q.1 q.2 = true := by decide +kernel
theorem kV_all : ∀ q ∈ tV, ∃ ps, kV_ck q ps = true := by
  have e : tV = (kV_c0 ++ kV_c1 ++ kV_c2 ++ kV_c3 ++ kV_c4 ++ kV_c5 ++ kV_c6 ++ kV_c7 ++ kV_c8 ++ kV_c9 ++ kV_c10 ++ kV_c11).map (fun q => q.1) := by decide +kernel
  intro q hq
  rw [e] at hq
  obtain ⟨z, hz, rfl⟩ := List.mem_map.mp hq
  refine ⟨z.2, ?_⟩
  revert z
  intro z hz _
  exact (fun h => (List.mem_append.mp h).elim (fun h => (List.mem_append.mp h).elim (fun h => (List.mem_append.mp h).elim (fun h => (List.mem_append.mp h).elim (fun h => (List.mem_append.mp h).elim (fun h => (List.mem_append.mp h).elim (fun h => (List.mem_append.mp h).elim (fun h => (List.mem_append.mp h).elim (fun h => (List.mem_append.mp h).elim (fun h => (List.mem_append.mp h).elim (fun h => (List.mem_append.mp h).elim (kV_k0 z) (kV_k1 z)) (kV_k2 z)) (kV_k3 z)) (kV_k4 z)) (kV_k5 z)) (kV_k6 z)) (kV_k7 z)) (kV_k8 z)) (kV_k9 z)) (kV_k10 z)) (kV_k11 z)) hz
def kS_ck (q : (Nat × Nat) × Nat) (ps : List Nat) : Bool := match mtab[q.2]? with
  | some me => inP (ps.getD 0 0) (.methodLink (cnm q.1.1) q.1.2 me.2.1) && inP (ps.getD 1 0) (.static me.2.1) && me.2.2.2.2.2.2.2
  | none => false
def kS_c0 : List (((Nat × Nat) × Nat) × List Nat) := [(((9, 18), 125), [134, 135]), (((9, 98), 113), [385, 386]), (((9, 125), 116), [569, 416]), (((9, 143), 115), [600, 601]), (((9, 176), 121), [587, 588]), (((9, 195), 120), [847, 848]), (((9, 198), 124), [689, 690]), (((9, 218), 114), [892, 893]), (((9, 231), 122), [680, 681]), (((9, 235), 123), [685, 686]), (((9, 244), 117), [591, 520]), (((10, 88), 127), [1026, 1027]), (((10, 134), 128), [1044, 1045]), (((10, 146), 144), [1061, 1062]), (((10, 152), 130), [1035, 1036]), (((10, 162), 129), [1105, 1106])]
theorem kS_k0 : ∀ q ∈ kS_c0, kS_ck q.1 q.2 = true := by decide +kernel
def kS_c1 : List (((Nat × Nat) × Nat) × List Nat) := [(((10, 223), 165), [1199, 1200]), (((10, 316), 191), [1275, 1276])]
theorem kS_k1 : ∀ q ∈ kS_c1, kS_ck q.1 q.2 = true := by decide +kernel
theorem kS_all : ∀ q ∈ tS, ∃ ps, kS_ck q ps = true := by
  have e : tS = (kS_c0 ++ kS_c1).map (fun q => q.1) := by decide +kernel
  intro q hq
  rw [e] at hq
  obtain ⟨z, hz, rfl⟩ := List.mem_map.mp hq
  refine ⟨z.2, ?_⟩
  revert z
  intro z hz _
  exact (fun h => (List.mem_append.mp h).elim (kS_k0 z) (kS_k1 z)) hz
def kSN_ck (q : (Nat × Nat) × Nat) (ps : List Nat) : Bool := match mtab[q.2]? with
  | some me => inN (ps.getD 0 0) (.methodLinkNest (cnm q.1.1) q.1.2 me.2.1 "BinderPress") && inP (ps.getD 1 0) (.static me.2.1) && me.2.2.2.2.2.2.2
  | none => false
def kSN_c0 : List (((Nat × Nat) × Nat) × List Nat) := [(((0, 58), 119), [628, 460]), (((1, 9), 125), [145, 135]), (((2, 72), 116), [415, 416]), (((2, 76), 119), [459, 460]), (((4, 58), 117), [750, 520]), (((4, 66), 118), [755, 546]), (((5, 107), 117), [778, 520]), (((5, 113), 116), [788, 416]), (((5, 130), 119), [812, 460]), (((6, 41), 117), [544, 520]), (((6, 53), 118), [733, 546]), (((6, 56), 116), [734, 416]), (((7, 45), 117), [519, 520]), (((7, 66), 118), [545, 546]), (((8, 63), 119), [637, 460])]
theorem kSN_k0 : ∀ q ∈ kSN_c0, kSN_ck q.1 q.2 = true := by decide +kernel
theorem kSN_all : ∀ q ∈ tSN, ∃ ps, kSN_ck q ps = true := by
  have e : tSN = (kSN_c0).map (fun q => q.1) := by decide +kernel
  intro q hq
  rw [e] at hq
  obtain ⟨z, hz, rfl⟩ := List.mem_map.mp hq
  refine ⟨z.2, ?_⟩
  revert z
  intro z hz _
  exact (kSN_k0 z) hz
def kI_ck (q : (Nat × Nat) × Nat) (ps : List Nat) : Bool := match mtab[q.2]? with
  | some me => inP (ps.getD 0 0) (.methodLink (cnm q.1.1) q.1.2 me.2.1) && inP (ps.getD 1 0) (.instanceMethod me.2.1) && decide (me.2.1.name = "<init>") && !me.2.2.2.2.2.2.2 && decide (me.2.2.2.2.1 = none)
  | none => false
def kI_c0 : List (((Nat × Nat) × Nat) × List Nat) := [(((0, 11), 27), [226, 120]), (((2, 11), 27), [164, 120]), (((4, 11), 66), [273, 184]), (((4, 22), 27), [275, 120]), (((5, 13), 27), [293, 120]), (((5, 43), 66), [295, 184]), (((6, 11), 27), [188, 120]), (((7, 11), 66), [203, 184]), (((7, 22), 27), [205, 120]), (((8, 13), 27), [234, 120]), (((8, 34), 66), [236, 184]), (((9, 11), 27), [119, 120]), (((9, 52), 66), [183, 184])]
theorem kI_k0 : ∀ q ∈ kI_c0, kI_ck q.1 q.2 = true := by decide +kernel
theorem kI_all : ∀ q ∈ tI, ∃ ps, kI_ck q ps = true := by
  have e : tI = (kI_c0).map (fun q => q.1) := by decide +kernel
  intro q hq
  rw [e] at hq
  obtain ⟨z, hz, rfl⟩ := List.mem_map.mp hq
  refine ⟨z.2, ?_⟩
  revert z
  intro z hz _
  exact (kI_k0 z) hz
def kIN_ck (q : (Nat × Nat) × Nat) (ps : List Nat) : Bool := match mtab[q.2]? with
  | some me => inN (ps.getD 0 0) (.methodLinkNest (cnm q.1.1) q.1.2 me.2.1 "BinderPress") && inP (ps.getD 1 0) (.instanceMethod me.2.1) && decide (me.2.1.name = "<init>") && !me.2.2.2.2.2.2.2 && decide (me.2.2.2.2.1 = none)
  | none => false
def kIN_c0 : List (((Nat × Nat) × Nat) × List Nat) := [(((0, 25), 79), [229, 230]), (((9, 35), 8), [141, 142]), (((9, 45), 15), [159, 160]), (((9, 59), 72), [198, 199]), (((9, 66), 0), [221, 222]), (((9, 73), 43), [268, 269]), (((9, 80), 48), [288, 289])]
theorem kIN_k0 : ∀ q ∈ kIN_c0, kIN_ck q.1 q.2 = true := by decide +kernel
theorem kIN_all : ∀ q ∈ tIN, ∃ ps, kIN_ck q ps = true := by
  have e : tIN = (kIN_c0).map (fun q => q.1) := by decide +kernel
  intro q hq
  rw [e] at hq
  obtain ⟨z, hz, rfl⟩ := List.mem_map.mp hq
  refine ⟨z.2, ?_⟩
  revert z
  intro z hz _
  exact (kIN_k0 z) hz
