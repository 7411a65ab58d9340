/-! facts of the layout -/
theorem row1 : isRow 1 := ⟨isO_dec (by decide +kernel), ⟨by decide +kernel, by decide +kernel⟩, by decide +kernel, by decide +kernel⟩
theorem cp1 : cp 1 = 240 := by decide +kernel
theorem oR1 : isO 1 3 := row1.1
theorem row4 : isRow 4 := ⟨isO_dec (by decide +kernel), ⟨by decide +kernel, by decide +kernel⟩, by decide +kernel, by decide +kernel⟩
theorem cp4 : cp 4 = 120 := by decide +kernel
theorem oR4 : isO 4 3 := row4.1
theorem row6 : isRow 6 := ⟨isO_dec (by decide +kernel), ⟨by decide +kernel, by decide +kernel⟩, by decide +kernel, by decide +kernel⟩
theorem cp6 : cp 6 = 120 := by decide +kernel
theorem oR6 : isO 6 3 := row6.1
theorem row8 : isRow 8 := ⟨isO_dec (by decide +kernel), ⟨by decide +kernel, by decide +kernel⟩, by decide +kernel, by decide +kernel⟩
theorem cp8 : cp 8 = 120 := by decide +kernel
theorem oR8 : isO 8 3 := row8.1
theorem row10 : isRow 10 := ⟨isO_dec (by decide +kernel), ⟨by decide +kernel, by decide +kernel⟩, by decide +kernel, by decide +kernel⟩
theorem cp10 : cp 10 = 120 := by decide +kernel
theorem oR10 : isO 10 3 := row10.1
theorem row13 : isRow 13 := ⟨isO_dec (by decide +kernel), ⟨by decide +kernel, by decide +kernel⟩, by decide +kernel, by decide +kernel⟩
theorem cp13 : cp 13 = 120 := by decide +kernel
theorem oR13 : isO 13 3 := row13.1
theorem row15 : isRow 15 := ⟨isO_dec (by decide +kernel), ⟨by decide +kernel, by decide +kernel⟩, by decide +kernel, by decide +kernel⟩
theorem cp15 : cp 15 = 120 := by decide +kernel
theorem oR15 : isO 15 3 := row15.1
theorem row17 : isRow 17 := ⟨isO_dec (by decide +kernel), ⟨by decide +kernel, by decide +kernel⟩, by decide +kernel, by decide +kernel⟩
theorem cp17 : cp 17 = 120 := by decide +kernel
theorem oR17 : isO 17 3 := row17.1
theorem row19 : isRow 19 := ⟨isO_dec (by decide +kernel), ⟨by decide +kernel, by decide +kernel⟩, by decide +kernel, by decide +kernel⟩
theorem cp19 : cp 19 = 120 := by decide +kernel
theorem oR19 : isO 19 3 := row19.1
theorem row21 : isRow 21 := ⟨isO_dec (by decide +kernel), ⟨by decide +kernel, by decide +kernel⟩, by decide +kernel, by decide +kernel⟩
theorem cp21 : cp 21 = 120 := by decide +kernel
theorem oR21 : isO 21 3 := row21.1
theorem row23 : isRow 23 := ⟨isO_dec (by decide +kernel), ⟨by decide +kernel, by decide +kernel⟩, by decide +kernel, by decide +kernel⟩
theorem cp23 : cp 23 = 120 := by decide +kernel
theorem oR23 : isO 23 3 := row23.1
theorem row25 : isRow 25 := ⟨isO_dec (by decide +kernel), ⟨by decide +kernel, by decide +kernel⟩, by decide +kernel, by decide +kernel⟩
theorem cp25 : cp 25 = 120 := by decide +kernel
theorem oR25 : isO 25 3 := row25.1
theorem row27 : isRow 27 := ⟨isO_dec (by decide +kernel), ⟨by decide +kernel, by decide +kernel⟩, by decide +kernel, by decide +kernel⟩
theorem cp27 : cp 27 = 120 := by decide +kernel
theorem oR27 : isO 27 3 := row27.1
theorem row32 : isRow 32 := ⟨isO_dec (by decide +kernel), ⟨by decide +kernel, by decide +kernel⟩, by decide +kernel, by decide +kernel⟩
theorem cp32 : cp 32 = 120 := by decide +kernel
theorem oR32 : isO 32 3 := row32.1
theorem row34 : isRow 34 := ⟨isO_dec (by decide +kernel), ⟨by decide +kernel, by decide +kernel⟩, by decide +kernel, by decide +kernel⟩
theorem cp34 : cp 34 = 120 := by decide +kernel
theorem oR34 : isO 34 3 := row34.1
theorem row36 : isRow 36 := ⟨isO_dec (by decide +kernel), ⟨by decide +kernel, by decide +kernel⟩, by decide +kernel, by decide +kernel⟩
theorem cp36 : cp 36 = 120 := by decide +kernel
theorem oR36 : isO 36 3 := row36.1
theorem row38 : isRow 38 := ⟨isO_dec (by decide +kernel), ⟨by decide +kernel, by decide +kernel⟩, by decide +kernel, by decide +kernel⟩
theorem cp38 : cp 38 = 120 := by decide +kernel
theorem oR38 : isO 38 3 := row38.1
theorem row40 : isRow 40 := ⟨isO_dec (by decide +kernel), ⟨by decide +kernel, by decide +kernel⟩, by decide +kernel, by decide +kernel⟩
theorem cp40 : cp 40 = 120 := by decide +kernel
theorem oR40 : isO 40 3 := row40.1
theorem row42 : isRow 42 := ⟨isO_dec (by decide +kernel), ⟨by decide +kernel, by decide +kernel⟩, by decide +kernel, by decide +kernel⟩
theorem cp42 : cp 42 = 120 := by decide +kernel
theorem oR42 : isO 42 3 := row42.1
theorem row44 : isRow 44 := ⟨isO_dec (by decide +kernel), ⟨by decide +kernel, by decide +kernel⟩, by decide +kernel, by decide +kernel⟩
theorem cp44 : cp 44 = 120 := by decide +kernel
theorem oR44 : isO 44 3 := row44.1
theorem row46 : isRow 46 := ⟨isO_dec (by decide +kernel), ⟨by decide +kernel, by decide +kernel⟩, by decide +kernel, by decide +kernel⟩
theorem cp46 : cp 46 = 120 := by decide +kernel
theorem oR46 : isO 46 3 := row46.1
theorem row48 : isRow 48 := ⟨isO_dec (by decide +kernel), ⟨by decide +kernel, by decide +kernel⟩, by decide +kernel, by decide +kernel⟩
theorem cp48 : cp 48 = 120 := by decide +kernel
theorem oR48 : isO 48 3 := row48.1
theorem row50 : isRow 50 := ⟨isO_dec (by decide +kernel), ⟨by decide +kernel, by decide +kernel⟩, by decide +kernel, by decide +kernel⟩
theorem cp50 : cp 50 = 120 := by decide +kernel
theorem oR50 : isO 50 3 := row50.1
theorem row53 : isRow 53 := ⟨isO_dec (by decide +kernel), ⟨by decide +kernel, by decide +kernel⟩, by decide +kernel, by decide +kernel⟩
theorem cp53 : cp 53 = 1032 := by decide +kernel
theorem oR53 : isO 53 3 := row53.1
theorem row56 : isRow 56 := ⟨isO_dec (by decide +kernel), ⟨by decide +kernel, by decide +kernel⟩, by decide +kernel, by decide +kernel⟩
theorem cp56 : cp 56 = 241 := by decide +kernel
theorem oR56 : isO 56 3 := row56.1
theorem row58 : isRow 58 := ⟨isO_dec (by decide +kernel), ⟨by decide +kernel, by decide +kernel⟩, by decide +kernel, by decide +kernel⟩
theorem cp58 : cp 58 = 241 := by decide +kernel
theorem oR58 : isO 58 3 := row58.1
theorem row61 : isRow 61 := ⟨isO_dec (by decide +kernel), ⟨by decide +kernel, by decide +kernel⟩, by decide +kernel, by decide +kernel⟩
theorem cp61 : cp 61 = 120 := by decide +kernel
theorem oR61 : isO 61 3 := row61.1
theorem row63 : isRow 63 := ⟨isO_dec (by decide +kernel), ⟨by decide +kernel, by decide +kernel⟩, by decide +kernel, by decide +kernel⟩
theorem cp63 : cp 63 = 120 := by decide +kernel
theorem oR63 : isO 63 3 := row63.1
theorem row67 : isRow 67 := ⟨isO_dec (by decide +kernel), ⟨by decide +kernel, by decide +kernel⟩, by decide +kernel, by decide +kernel⟩
theorem cp67 : cp 67 = 1032 := by decide +kernel
theorem oR67 : isO 67 3 := row67.1
theorem row69 : isRow 69 := ⟨isO_dec (by decide +kernel), ⟨by decide +kernel, by decide +kernel⟩, by decide +kernel, by decide +kernel⟩
theorem cp69 : cp 69 = 1032 := by decide +kernel
theorem oR69 : isO 69 3 := row69.1
theorem row71 : isRow 71 := ⟨isO_dec (by decide +kernel), ⟨by decide +kernel, by decide +kernel⟩, by decide +kernel, by decide +kernel⟩
theorem cp71 : cp 71 = 1032 := by decide +kernel
theorem oR71 : isO 71 3 := row71.1
theorem row73 : isRow 73 := ⟨isO_dec (by decide +kernel), ⟨by decide +kernel, by decide +kernel⟩, by decide +kernel, by decide +kernel⟩
theorem cp73 : cp 73 = 1032 := by decide +kernel
theorem oR73 : isO 73 3 := row73.1
theorem row75 : isRow 75 := ⟨isO_dec (by decide +kernel), ⟨by decide +kernel, by decide +kernel⟩, by decide +kernel, by decide +kernel⟩
theorem cp75 : cp 75 = 1032 := by decide +kernel
theorem oR75 : isO 75 3 := row75.1
theorem row78 : isRow 78 := ⟨isO_dec (by decide +kernel), ⟨by decide +kernel, by decide +kernel⟩, by decide +kernel, by decide +kernel⟩
theorem cp78 : cp 78 = 301 := by decide +kernel
theorem oR78 : isO 78 3 := row78.1
theorem row80 : isRow 80 := ⟨isO_dec (by decide +kernel), ⟨by decide +kernel, by decide +kernel⟩, by decide +kernel, by decide +kernel⟩
theorem cp80 : cp 80 = 301 := by decide +kernel
theorem oR80 : isO 80 3 := row80.1
theorem row83 : isRow 83 := ⟨isO_dec (by decide +kernel), ⟨by decide +kernel, by decide +kernel⟩, by decide +kernel, by decide +kernel⟩
theorem cp83 : cp 83 = 520 := by decide +kernel
theorem oR83 : isO 83 3 := row83.1
theorem row85 : isRow 85 := ⟨isO_dec (by decide +kernel), ⟨by decide +kernel, by decide +kernel⟩, by decide +kernel, by decide +kernel⟩
theorem cp85 : cp 85 = 520 := by decide +kernel
theorem oR85 : isO 85 3 := row85.1
theorem row87 : isRow 87 := ⟨isO_dec (by decide +kernel), ⟨by decide +kernel, by decide +kernel⟩, by decide +kernel, by decide +kernel⟩
theorem cp87 : cp 87 = 520 := by decide +kernel
theorem oR87 : isO 87 3 := row87.1
theorem row89 : isRow 89 := ⟨isO_dec (by decide +kernel), ⟨by decide +kernel, by decide +kernel⟩, by decide +kernel, by decide +kernel⟩
theorem cp89 : cp 89 = 301 := by decide +kernel
theorem oR89 : isO 89 3 := row89.1
theorem row91 : isRow 91 := ⟨isO_dec (by decide +kernel), ⟨by decide +kernel, by decide +kernel⟩, by decide +kernel, by decide +kernel⟩
theorem cp91 : cp 91 = 308 := by decide +kernel
theorem oR91 : isO 91 3 := row91.1
theorem row94 : isRow 94 := ⟨isO_dec (by decide +kernel), ⟨by decide +kernel, by decide +kernel⟩, by decide +kernel, by decide +kernel⟩
theorem cp94 : cp 94 = 120 := by decide +kernel
theorem oR94 : isO 94 3 := row94.1
theorem row96 : isRow 96 := ⟨isO_dec (by decide +kernel), ⟨by decide +kernel, by decide +kernel⟩, by decide +kernel, by decide +kernel⟩
theorem cp96 : cp 96 = 120 := by decide +kernel
theorem oR96 : isO 96 3 := row96.1
theorem row100 : isRow 100 := ⟨isO_dec (by decide +kernel), ⟨by decide +kernel, by decide +kernel⟩, by decide +kernel, by decide +kernel⟩
theorem cp100 : cp 100 = 120 := by decide +kernel
theorem oR100 : isO 100 3 := row100.1
theorem row102 : isRow 102 := ⟨isO_dec (by decide +kernel), ⟨by decide +kernel, by decide +kernel⟩, by decide +kernel, by decide +kernel⟩
theorem cp102 : cp 102 = 120 := by decide +kernel
theorem oR102 : isO 102 3 := row102.1
theorem row104 : isRow 104 := ⟨isO_dec (by decide +kernel), ⟨by decide +kernel, by decide +kernel⟩, by decide +kernel, by decide +kernel⟩
theorem cp104 : cp 104 = 368 := by decide +kernel
theorem oR104 : isO 104 3 := row104.1
theorem row106 : isRow 106 := ⟨isO_dec (by decide +kernel), ⟨by decide +kernel, by decide +kernel⟩, by decide +kernel, by decide +kernel⟩
theorem cp106 : cp 106 = 488 := by decide +kernel
theorem oR106 : isO 106 3 := row106.1
theorem row109 : isRow 109 := ⟨isO_dec (by decide +kernel), ⟨by decide +kernel, by decide +kernel⟩, by decide +kernel, by decide +kernel⟩
theorem cp109 : cp 109 = 720 := by decide +kernel
theorem oR109 : isO 109 3 := row109.1
theorem row111 : isRow 111 := ⟨isO_dec (by decide +kernel), ⟨by decide +kernel, by decide +kernel⟩, by decide +kernel, by decide +kernel⟩
theorem cp111 : cp 111 = 720 := by decide +kernel
theorem oR111 : isO 111 3 := row111.1
theorem row113 : isRow 113 := ⟨isO_dec (by decide +kernel), ⟨by decide +kernel, by decide +kernel⟩, by decide +kernel, by decide +kernel⟩
theorem cp113 : cp 113 = 720 := by decide +kernel
theorem oR113 : isO 113 3 := row113.1
theorem row115 : isRow 115 := ⟨isO_dec (by decide +kernel), ⟨by decide +kernel, by decide +kernel⟩, by decide +kernel, by decide +kernel⟩
theorem cp115 : cp 115 = 120 := by decide +kernel
theorem oR115 : isO 115 3 := row115.1
theorem row117 : isRow 117 := ⟨isO_dec (by decide +kernel), ⟨by decide +kernel, by decide +kernel⟩, by decide +kernel, by decide +kernel⟩
theorem cp117 : cp 117 = 26 := by decide +kernel
theorem oR117 : isO 117 3 := row117.1
theorem row119 : isRow 119 := ⟨isO_dec (by decide +kernel), ⟨by decide +kernel, by decide +kernel⟩, by decide +kernel, by decide +kernel⟩
theorem cp119 : cp 119 = 1448 := by decide +kernel
theorem oR119 : isO 119 3 := row119.1
theorem row121 : isRow 121 := ⟨isO_dec (by decide +kernel), ⟨by decide +kernel, by decide +kernel⟩, by decide +kernel, by decide +kernel⟩
theorem cp121 : cp 121 = 720 := by decide +kernel
theorem oR121 : isO 121 3 := row121.1
theorem row123 : isRow 123 := ⟨isO_dec (by decide +kernel), ⟨by decide +kernel, by decide +kernel⟩, by decide +kernel, by decide +kernel⟩
theorem cp123 : cp 123 = 201 := by decide +kernel
theorem oR123 : isO 123 3 := row123.1
theorem row126 : isRow 126 := ⟨isO_dec (by decide +kernel), ⟨by decide +kernel, by decide +kernel⟩, by decide +kernel, by decide +kernel⟩
theorem cp126 : cp 126 = 120 := by decide +kernel
theorem oR126 : isO 126 3 := row126.1
theorem row128 : isRow 128 := ⟨isO_dec (by decide +kernel), ⟨by decide +kernel, by decide +kernel⟩, by decide +kernel, by decide +kernel⟩
theorem cp128 : cp 128 = 120 := by decide +kernel
theorem oR128 : isO 128 3 := row128.1
theorem kd2 : kdS 2 = 20 := by decide +kernel
theorem ln2 : ln 2 = 240 := by decide +kernel
theorem kd3 : kdS 3 = 22 := by decide +kernel
theorem ln3 : ln 3 = 4 := by decide +kernel
theorem kd5 : kdS 5 = 20 := by decide +kernel
theorem ln5 : ln 5 = 120 := by decide +kernel
theorem kd7 : kdS 7 = 20 := by decide +kernel
theorem ln7 : ln 7 = 120 := by decide +kernel
theorem kd9 : kdS 9 = 20 := by decide +kernel
theorem ln9 : ln 9 = 120 := by decide +kernel
theorem kd11 : kdS 11 = 20 := by decide +kernel
theorem ln11 : ln 11 = 120 := by decide +kernel
theorem kd12 : kdS 12 = 22 := by decide +kernel
theorem ln12 : ln 12 = 8 := by decide +kernel
theorem kd14 : kdS 14 = 20 := by decide +kernel
theorem ln14 : ln 14 = 120 := by decide +kernel
theorem kd16 : kdS 16 = 20 := by decide +kernel
theorem ln16 : ln 16 = 120 := by decide +kernel
theorem kd18 : kdS 18 = 20 := by decide +kernel
theorem ln18 : ln 18 = 120 := by decide +kernel
theorem kd20 : kdS 20 = 20 := by decide +kernel
theorem ln20 : ln 20 = 120 := by decide +kernel
theorem kd22 : kdS 22 = 20 := by decide +kernel
theorem ln22 : ln 22 = 120 := by decide +kernel
theorem kd24 : kdS 24 = 20 := by decide +kernel
theorem ln24 : ln 24 = 120 := by decide +kernel
theorem kd26 : kdS 26 = 20 := by decide +kernel
theorem ln26 : ln 26 = 120 := by decide +kernel
theorem kd28 : kdS 28 = 20 := by decide +kernel
theorem ln28 : ln 28 = 120 := by decide +kernel
theorem kd29 : kdS 29 = 21 := by decide +kernel
theorem ln29 : ln 29 = 2 := by decide +kernel
theorem kd31 : kdS 31 = 22 := by decide +kernel
theorem ln31 : ln 31 = 10 := by decide +kernel
theorem kd33 : kdS 33 = 20 := by decide +kernel
theorem ln33 : ln 33 = 120 := by decide +kernel
theorem kd35 : kdS 35 = 20 := by decide +kernel
theorem ln35 : ln 35 = 120 := by decide +kernel
theorem kd37 : kdS 37 = 20 := by decide +kernel
theorem ln37 : ln 37 = 120 := by decide +kernel
theorem kd39 : kdS 39 = 20 := by decide +kernel
theorem ln39 : ln 39 = 120 := by decide +kernel
theorem kd41 : kdS 41 = 20 := by decide +kernel
theorem ln41 : ln 41 = 120 := by decide +kernel
theorem kd43 : kdS 43 = 20 := by decide +kernel
theorem ln43 : ln 43 = 120 := by decide +kernel
theorem kd45 : kdS 45 = 20 := by decide +kernel
theorem ln45 : ln 45 = 120 := by decide +kernel
theorem kd47 : kdS 47 = 20 := by decide +kernel
theorem ln47 : ln 47 = 120 := by decide +kernel
theorem kd49 : kdS 49 = 20 := by decide +kernel
theorem ln49 : ln 49 = 120 := by decide +kernel
theorem kd51 : kdS 51 = 20 := by decide +kernel
theorem ln51 : ln 51 = 120 := by decide +kernel
theorem kd52 : kdS 52 = 20 := by decide +kernel
theorem ln52 : ln 52 = 10 := by decide +kernel
theorem kd54 : kdS 54 = 20 := by decide +kernel
theorem ln54 : ln 54 = 1032 := by decide +kernel
theorem kd57 : kdS 57 = 20 := by decide +kernel
theorem ln57 : ln 57 = 241 := by decide +kernel
theorem kd59 : kdS 59 = 20 := by decide +kernel
theorem ln59 : ln 59 = 241 := by decide +kernel
theorem kd62 : kdS 62 = 20 := by decide +kernel
theorem ln62 : ln 62 = 120 := by decide +kernel
theorem kd64 : kdS 64 = 20 := by decide +kernel
theorem ln64 : ln 64 = 120 := by decide +kernel
theorem kd68 : kdS 68 = 20 := by decide +kernel
theorem ln68 : ln 68 = 1032 := by decide +kernel
theorem kd70 : kdS 70 = 20 := by decide +kernel
theorem ln70 : ln 70 = 1032 := by decide +kernel
theorem kd72 : kdS 72 = 20 := by decide +kernel
theorem ln72 : ln 72 = 1032 := by decide +kernel
theorem kd74 : kdS 74 = 20 := by decide +kernel
theorem ln74 : ln 74 = 1032 := by decide +kernel
theorem kd76 : kdS 76 = 20 := by decide +kernel
theorem ln76 : ln 76 = 1032 := by decide +kernel
theorem kd79 : kdS 79 = 20 := by decide +kernel
theorem ln79 : ln 79 = 301 := by decide +kernel
theorem kd81 : kdS 81 = 20 := by decide +kernel
theorem ln81 : ln 81 = 301 := by decide +kernel
theorem kd84 : kdS 84 = 20 := by decide +kernel
theorem ln84 : ln 84 = 520 := by decide +kernel
theorem kd86 : kdS 86 = 20 := by decide +kernel
theorem ln86 : ln 86 = 520 := by decide +kernel
theorem kd88 : kdS 88 = 20 := by decide +kernel
theorem ln88 : ln 88 = 520 := by decide +kernel
theorem kd90 : kdS 90 = 20 := by decide +kernel
theorem ln90 : ln 90 = 301 := by decide +kernel
theorem kd92 : kdS 92 = 20 := by decide +kernel
theorem ln92 : ln 92 = 308 := by decide +kernel
theorem kd95 : kdS 95 = 20 := by decide +kernel
theorem ln95 : ln 95 = 120 := by decide +kernel
theorem kd97 : kdS 97 = 20 := by decide +kernel
theorem ln97 : ln 97 = 120 := by decide +kernel
theorem kd101 : kdS 101 = 20 := by decide +kernel
theorem ln101 : ln 101 = 120 := by decide +kernel
theorem kd103 : kdS 103 = 20 := by decide +kernel
theorem ln103 : ln 103 = 120 := by decide +kernel
theorem kd105 : kdS 105 = 20 := by decide +kernel
theorem ln105 : ln 105 = 368 := by decide +kernel
theorem kd107 : kdS 107 = 20 := by decide +kernel
theorem ln107 : ln 107 = 488 := by decide +kernel
theorem kd110 : kdS 110 = 20 := by decide +kernel
theorem ln110 : ln 110 = 720 := by decide +kernel
theorem kd112 : kdS 112 = 20 := by decide +kernel
theorem ln112 : ln 112 = 720 := by decide +kernel
theorem kd114 : kdS 114 = 20 := by decide +kernel
theorem ln114 : ln 114 = 720 := by decide +kernel
theorem kd116 : kdS 116 = 20 := by decide +kernel
theorem ln116 : ln 116 = 120 := by decide +kernel
theorem kd118 : kdS 118 = 20 := by decide +kernel
theorem ln118 : ln 118 = 26 := by decide +kernel
theorem kd120 : kdS 120 = 20 := by decide +kernel
theorem ln120 : ln 120 = 1448 := by decide +kernel
theorem kd122 : kdS 122 = 20 := by decide +kernel
theorem ln122 : ln 122 = 720 := by decide +kernel
theorem kd124 : kdS 124 = 20 := by decide +kernel
theorem ln124 : ln 124 = 201 := by decide +kernel
theorem kd127 : kdS 127 = 20 := by decide +kernel
theorem ln127 : ln 127 = 120 := by decide +kernel
theorem kd129 : kdS 129 = 20 := by decide +kernel
theorem ln129 : ln 129 = 120 := by decide +kernel
theorem kd131 : kdS 131 = 20 := by decide +kernel
theorem ln131 : ln 131 = 6292 := by decide +kernel
theorem kd132 : kdS 132 = 21 := by decide +kernel
theorem ln132 : ln 132 = 2 := by decide +kernel
theorem kd133 : kdS 133 = 20 := by decide +kernel
theorem ln133 : ln 133 = 240 := by decide +kernel
theorem kd134 : kdS 134 = 20 := by decide +kernel
theorem ln134 : ln 134 = 2200 := by decide +kernel
theorem kd135 : kdS 135 = 20 := by decide +kernel
theorem ln135 : ln 135 = 2200 := by decide +kernel
theorem kd136 : kdS 136 = 20 := by decide +kernel
theorem ln136 : ln 136 = 2200 := by decide +kernel
theorem kd137 : kdS 137 = 20 := by decide +kernel
theorem ln137 : ln 137 = 242 := by decide +kernel
theorem kd138 : kdS 138 = 21 := by decide +kernel
theorem ln138 : ln 138 = 242 := by decide +kernel
theorem kd139 : kdS 139 = 20 := by decide +kernel
theorem ln139 : ln 139 = 4 := by decide +kernel
theorem kd140 : kdS 140 = 20 := by decide +kernel
theorem ln140 : ln 140 = 640 := by decide +kernel
theorem kd141 : kdS 141 = 20 := by decide +kernel
theorem ln141 : ln 141 = 640 := by decide +kernel
theorem kd142 : kdS 142 = 20 := by decide +kernel
theorem ln142 : ln 142 = 640 := by decide +kernel
theorem kd143 : kdS 143 = 20 := by decide +kernel
theorem ln143 : ln 143 = 640 := by decide +kernel
theorem kd144 : kdS 144 = 20 := by decide +kernel
theorem ln144 : ln 144 = 1600 := by decide +kernel
theorem kd145 : kdS 145 = 20 := by decide +kernel
theorem ln145 : ln 145 = 1600 := by decide +kernel
theorem kd146 : kdS 146 = 20 := by decide +kernel
theorem ln146 : ln 146 = 1600 := by decide +kernel
theorem kd147 : kdS 147 = 21 := by decide +kernel
theorem ln147 : ln 147 = 1600 := by decide +kernel
theorem kd148 : kdS 148 = 20 := by decide +kernel
theorem ln148 : ln 148 = 26 := by decide +kernel
theorem kd149 : kdS 149 = 20 := by decide +kernel
theorem ln149 : ln 149 = 120 := by decide +kernel
theorem kd150 : kdS 150 = 20 := by decide +kernel
theorem ln150 : ln 150 = 4000 := by decide +kernel
theorem kd151 : kdS 151 = 20 := by decide +kernel
theorem ln151 : ln 151 = 800 := by decide +kernel
theorem kd152 : kdS 152 = 20 := by decide +kernel
theorem ln152 : ln 152 = 1600 := by decide +kernel
theorem kd153 : kdS 153 = 20 := by decide +kernel
theorem ln153 : ln 153 = 200 := by decide +kernel
theorem oS60 : isO 60 6 := isO_dec (by decide +kernel)
theorem oS66 : isO 66 6 := isO_dec (by decide +kernel)
theorem oS93 : isO 93 6 := isO_dec (by decide +kernel)
theorem oS99 : isO 99 6 := isO_dec (by decide +kernel)
theorem oS125 : isO 125 6 := isO_dec (by decide +kernel)
