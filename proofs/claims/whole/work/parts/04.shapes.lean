/-! The two worlds: the class's cells and the reference's, with their links. -/
def rg_tC : List rg_Sh := [.inr (9, [some 1, some 2, some 3, some 4, some 5, some 6, some 7, some 8, some 9, none]), .inr (0, [some 11, some 12, none, none]), .inr (4, [some 13, some 14, some 15, none]), .inr (2, [some 16, some 17, some 18]), .inr (1, [some 19, some 20, some 21, some 22, none]), .inr (8, [some 23, some 24, none]), .inr (3, [some 10, some 28, some 29, some 1, some 2, some 3, some 4, some 30, some 31, some 32, some 33]), .inr (6, [some 34, some 35, some 36, some 37, some 38, some 39, some 1, some 2, some 5, some 6]), .inr (5, [some 1, some 2, some 6, some 7, some 40, some 41, some 42]), .inr (7, [some 43, none]), .inr (2, [some 25, some 26, some 27]), .inl (1, 40), .inl (1, 40), .inl (1, 16), .inl (1, 16), .inl (2, 16), .inl (1, 640), .inl (1, 640), .inl (1, 640), .inl (1, 41), .inl (1, 41), .inl (1, 41), .inl (2, 41), .inl (1, 6), .inl (1, 6), .inl (1, 640), .inl (1, 640), .inl (1, 640), .inl (2, 640), .inl (1, 640), .inl (2, 16), .inl (1, 16), .inl (1, 100), .inl (1, 100), .inl (1, 640), .inl (2, 640), .inl (1, 40), .inl (1, 40), .inl (1, 40), .inl (1, 40), .inl (1, 1440), .inl (1, 40), .inl (1, 40), .inl (0, 8040)]
theorem tC_len : rg_tC.length = 44 := rfl
theorem tC0 : rg_tC[0]? = some (.inr (9, [some 1, some 2, some 3, some 4, some 5, some 6, some 7, some 8, some 9, none])) := rfl
theorem tC1 : rg_tC[1]? = some (.inr (0, [some 11, some 12, none, none])) := rfl
theorem tC2 : rg_tC[2]? = some (.inr (4, [some 13, some 14, some 15, none])) := rfl
theorem tC3 : rg_tC[3]? = some (.inr (2, [some 16, some 17, some 18])) := rfl
theorem tC4 : rg_tC[4]? = some (.inr (1, [some 19, some 20, some 21, some 22, none])) := rfl
theorem tC5 : rg_tC[5]? = some (.inr (8, [some 23, some 24, none])) := rfl
theorem tC6 : rg_tC[6]? = some (.inr (3, [some 10, some 28, some 29, some 1, some 2, some 3, some 4, some 30, some 31, some 32, some 33])) := rfl
theorem tC7 : rg_tC[7]? = some (.inr (6, [some 34, some 35, some 36, some 37, some 38, some 39, some 1, some 2, some 5, some 6])) := rfl
theorem tC8 : rg_tC[8]? = some (.inr (5, [some 1, some 2, some 6, some 7, some 40, some 41, some 42])) := rfl
theorem tC9 : rg_tC[9]? = some (.inr (7, [some 43, none])) := rfl
theorem tC10 : rg_tC[10]? = some (.inr (2, [some 25, some 26, some 27])) := rfl
theorem tC11 : rg_tC[11]? = some (.inl (1, 40)) := rfl
theorem tC12 : rg_tC[12]? = some (.inl (1, 40)) := rfl
theorem tC13 : rg_tC[13]? = some (.inl (1, 16)) := rfl
theorem tC14 : rg_tC[14]? = some (.inl (1, 16)) := rfl
theorem tC15 : rg_tC[15]? = some (.inl (2, 16)) := rfl
theorem tC16 : rg_tC[16]? = some (.inl (1, 640)) := rfl
theorem tC17 : rg_tC[17]? = some (.inl (1, 640)) := rfl
theorem tC18 : rg_tC[18]? = some (.inl (1, 640)) := rfl
theorem tC19 : rg_tC[19]? = some (.inl (1, 41)) := rfl
theorem tC20 : rg_tC[20]? = some (.inl (1, 41)) := rfl
theorem tC21 : rg_tC[21]? = some (.inl (1, 41)) := rfl
theorem tC22 : rg_tC[22]? = some (.inl (2, 41)) := rfl
theorem tC23 : rg_tC[23]? = some (.inl (1, 6)) := rfl
theorem tC24 : rg_tC[24]? = some (.inl (1, 6)) := rfl
theorem tC25 : rg_tC[25]? = some (.inl (1, 640)) := rfl
theorem tC26 : rg_tC[26]? = some (.inl (1, 640)) := rfl
theorem tC27 : rg_tC[27]? = some (.inl (1, 640)) := rfl
theorem tC28 : rg_tC[28]? = some (.inl (2, 640)) := rfl
theorem tC29 : rg_tC[29]? = some (.inl (1, 640)) := rfl
theorem tC30 : rg_tC[30]? = some (.inl (2, 16)) := rfl
theorem tC31 : rg_tC[31]? = some (.inl (1, 16)) := rfl
theorem tC32 : rg_tC[32]? = some (.inl (1, 100)) := rfl
theorem tC33 : rg_tC[33]? = some (.inl (1, 100)) := rfl
theorem tC34 : rg_tC[34]? = some (.inl (1, 640)) := rfl
theorem tC35 : rg_tC[35]? = some (.inl (2, 640)) := rfl
theorem tC36 : rg_tC[36]? = some (.inl (1, 40)) := rfl
theorem tC37 : rg_tC[37]? = some (.inl (1, 40)) := rfl
theorem tC38 : rg_tC[38]? = some (.inl (1, 40)) := rfl
theorem tC39 : rg_tC[39]? = some (.inl (1, 40)) := rfl
theorem tC40 : rg_tC[40]? = some (.inl (1, 1440)) := rfl
theorem tC41 : rg_tC[41]? = some (.inl (1, 40)) := rfl
theorem tC42 : rg_tC[42]? = some (.inl (1, 40)) := rfl
theorem tC43 : rg_tC[43]? = some (.inl (0, 8040)) := rfl
def rg_tM : List rg_Sh := [.inr (10, [none, none, some 1, some 2, none, some 3, some 4, some 5, some 6, some 7, some 8, none, some 9, some 10, some 11, some 12, none, none, some 13, some 14, none, some 15, some 16, some 17, some 18, some 19, some 20, some 21, some 22, some 23, some 24, some 25, none, none, some 26]), .inl (1, 40), .inl (1, 40), .inl (1, 16), .inl (1, 16), .inl (2, 16), .inl (1, 640), .inl (1, 640), .inl (1, 640), .inl (1, 41), .inl (1, 41), .inl (1, 41), .inl (2, 41), .inl (1, 6), .inl (1, 6), .inl (1, 640), .inl (1, 640), .inl (1, 640), .inl (2, 16), .inl (1, 640), .inl (2, 640), .inl (1, 40), .inl (1, 40), .inl (1, 40), .inl (1, 40), .inl (1, 40), .inl (1, 12000)]
theorem tM_len : rg_tM.length = 27 := rfl
theorem tM0 : rg_tM[0]? = some (.inr (10, [none, none, some 1, some 2, none, some 3, some 4, some 5, some 6, some 7, some 8, none, some 9, some 10, some 11, some 12, none, none, some 13, some 14, none, some 15, some 16, some 17, some 18, some 19, some 20, some 21, some 22, some 23, some 24, some 25, none, none, some 26])) := rfl
theorem tM1 : rg_tM[1]? = some (.inl (1, 40)) := rfl
theorem tM2 : rg_tM[2]? = some (.inl (1, 40)) := rfl
theorem tM3 : rg_tM[3]? = some (.inl (1, 16)) := rfl
theorem tM4 : rg_tM[4]? = some (.inl (1, 16)) := rfl
theorem tM5 : rg_tM[5]? = some (.inl (2, 16)) := rfl
theorem tM6 : rg_tM[6]? = some (.inl (1, 640)) := rfl
theorem tM7 : rg_tM[7]? = some (.inl (1, 640)) := rfl
theorem tM8 : rg_tM[8]? = some (.inl (1, 640)) := rfl
theorem tM9 : rg_tM[9]? = some (.inl (1, 41)) := rfl
theorem tM10 : rg_tM[10]? = some (.inl (1, 41)) := rfl
theorem tM11 : rg_tM[11]? = some (.inl (1, 41)) := rfl
theorem tM12 : rg_tM[12]? = some (.inl (2, 41)) := rfl
theorem tM13 : rg_tM[13]? = some (.inl (1, 6)) := rfl
theorem tM14 : rg_tM[14]? = some (.inl (1, 6)) := rfl
theorem tM15 : rg_tM[15]? = some (.inl (1, 640)) := rfl
theorem tM16 : rg_tM[16]? = some (.inl (1, 640)) := rfl
theorem tM17 : rg_tM[17]? = some (.inl (1, 640)) := rfl
theorem tM18 : rg_tM[18]? = some (.inl (2, 16)) := rfl
theorem tM19 : rg_tM[19]? = some (.inl (1, 640)) := rfl
theorem tM20 : rg_tM[20]? = some (.inl (2, 640)) := rfl
theorem tM21 : rg_tM[21]? = some (.inl (1, 40)) := rfl
theorem tM22 : rg_tM[22]? = some (.inl (1, 40)) := rfl
theorem tM23 : rg_tM[23]? = some (.inl (1, 40)) := rfl
theorem tM24 : rg_tM[24]? = some (.inl (1, 40)) := rfl
theorem tM25 : rg_tM[25]? = some (.inl (1, 40)) := rfl
theorem tM26 : rg_tM[26]? = some (.inl (1, 12000)) := rfl
theorem cX0 : vwCl[0]? = some (RX0, TX0, 4) := rfl
theorem cX1 : vwCl[1]? = some (RX1, TX1, 5) := rfl
theorem cX2 : vwCl[2]? = some (RX2, TX2, 3) := rfl
theorem cX3 : vwCl[3]? = some (RX3, TX3, 11) := rfl
theorem cX4 : vwCl[4]? = some (RX4, TX4, 4) := rfl
theorem cX5 : vwCl[5]? = some (RX5, TX5, 7) := rfl
theorem cX6 : vwCl[6]? = some (RX6, TX6, 10) := rfl
theorem cX7 : vwCl[7]? = some (RX7, TX7, 2) := rfl
theorem cX8 : vwCl[8]? = some (RX8, TX8, 3) := rfl
theorem cX9 : vwCl[9]? = some (RX9, TX9, 10) := rfl
theorem cX10 : vwCl[10]? = some (RX10, TX10, 35) := rfl
theorem v_X9_init : rg_vm yX9_init cX9_init 1 none 0 := ⟨k_co_yX9_init, k_in_X9, by decide +kernel⟩
theorem v_X0_init : rg_vm yX0_init cX0_init 1 none 0 := ⟨k_co_yX0_init, k_in_X0, by decide +kernel⟩
theorem v_X4_init : rg_vm yX4_init cX4_init 1 none 0 := ⟨k_co_yX4_init, k_in_X4, by decide +kernel⟩
theorem v_X2_init : rg_vm yX2_init cX2_init 1 none 0 := ⟨k_co_yX2_init, k_in_X2, by decide +kernel⟩
theorem v_J7_fill_53178 : rg_vm yJ7_fill_53178 cJ7_fill_53178 4 none 2 := ⟨k_co_yJ7_fill_53178, k_in_J7, by decide +kernel⟩
theorem v_X1_init : rg_vm yX1_init cX1_init 1 none 0 := ⟨k_co_yX1_init, k_in_X1, by decide +kernel⟩
theorem v_X8_init : rg_vm yX8_init cX8_init 1 none 0 := ⟨k_co_yX8_init, k_in_X8, by decide +kernel⟩
theorem v_X3_init : rg_vm yX3_init cX3_init 5 none 4 := ⟨k_co_yX3_init, k_in_X3, by decide +kernel⟩
theorem v_X6_init : rg_vm yX6_init cX6_init 5 none 4 := ⟨k_co_yX6_init, k_in_X6, by decide +kernel⟩
theorem v_X5_init : rg_vm yX5_init cX5_init 5 none 4 := ⟨k_co_yX5_init, k_in_X5, by decide +kernel⟩
theorem v_X7_init : rg_vm yX7_init cX7_init 1 none 0 := ⟨k_co_yX7_init, k_in_X7, by decide +kernel⟩
theorem v_X9_sheet : rg_vm yX9_sheet cX9_sheet 2 (some FieldType.int) 0 := ⟨k_co_yX9_sheet, k_in_X9, by decide +kernel⟩
theorem i_X9_sheet : Cond.instanceMethod yX9_sheet ∈ lw_gd ∧ Cond.selects yX9_sheet.cls yX9_sheet yX9_sheet ∈ lw_gd := ⟨k_im_yX9_sheet, k_sel_yX9_sheet⟩
theorem v_X9_bringUpToDate : rg_vm yX9_bringUpToDate cX9_bringUpToDate 1 none 0 := ⟨k_co_yX9_bringUpToDate, k_in_X9, by decide +kernel⟩
theorem i_X9_bringUpToDate : Cond.instanceMethod yX9_bringUpToDate ∈ lw_gd ∧ Cond.selects yX9_bringUpToDate.cls yX9_bringUpToDate yX9_bringUpToDate ∈ lw_gd := ⟨k_im_yX9_bringUpToDate, k_sel_yX9_bringUpToDate⟩
theorem v_X3_calculate : rg_vm yX3_calculate cX3_calculate 2 none 0 := ⟨k_co_yX3_calculate, k_in_X3, by decide +kernel⟩
theorem i_X3_calculate : Cond.instanceMethod yX3_calculate ∈ lw_gd ∧ Cond.selects yX3_calculate.cls yX3_calculate yX3_calculate ∈ lw_gd := ⟨k_im_yX3_calculate, k_sel_yX3_calculate⟩
theorem v_X2_copyAll : rg_vm yX2_copyAll cX2_copyAll 2 none 1 := ⟨k_co_yX2_copyAll, k_in_X2, by decide +kernel⟩
theorem i_X2_copyAll : Cond.instanceMethod yX2_copyAll ∈ lw_gd ∧ Cond.selects yX2_copyAll.cls yX2_copyAll yX2_copyAll ∈ lw_gd := ⟨k_im_yX2_copyAll, k_sel_yX2_copyAll⟩
theorem v_X1_putInto : rg_vm yX1_putInto cX1_putInto 3 none 1 := ⟨k_co_yX1_putInto, k_in_X1, by decide +kernel⟩
theorem i_X1_putInto : Cond.instanceMethod yX1_putInto ∈ lw_gd ∧ Cond.selects yX1_putInto.cls yX1_putInto yX1_putInto ∈ lw_gd := ⟨k_im_yX1_putInto, k_sel_yX1_putInto⟩
theorem v_X2_put : rg_vm yX2_put cX2_put 4 none 3 := ⟨k_co_yX2_put, k_in_X2, by decide +kernel⟩
theorem i_X2_put : Cond.instanceMethod yX2_put ∈ lw_gd ∧ Cond.selects yX2_put.cls yX2_put yX2_put ∈ lw_gd := ⟨k_im_yX2_put, k_sel_yX2_put⟩
theorem v_X0_countIn : rg_vm yX0_countIn cX0_countIn 4 (some FieldType.int) 1 := ⟨k_co_yX0_countIn, k_in_X0, by decide +kernel⟩
theorem i_X0_countIn : Cond.instanceMethod yX0_countIn ∈ lw_gd ∧ Cond.selects yX0_countIn.cls yX0_countIn yX0_countIn ∈ lw_gd := ⟨k_im_yX0_countIn, k_sel_yX0_countIn⟩
theorem v_X0_isIn : rg_vm yX0_isIn cX0_isIn 3 (some FieldType.boolean) 2 := ⟨k_co_yX0_isIn, k_in_X0, by decide +kernel⟩
theorem i_X0_isIn : Cond.instanceMethod yX0_isIn ∈ lw_gd ∧ Cond.selects yX0_isIn.cls yX0_isIn yX0_isIn ∈ lw_gd := ⟨k_im_yX0_isIn, k_sel_yX0_isIn⟩
theorem v_X3_hasEntry : rg_vm yX3_hasEntry cX3_hasEntry 3 (some FieldType.boolean) 1 := ⟨k_co_yX3_hasEntry, k_in_X3, by decide +kernel⟩
theorem i_X3_hasEntry : Cond.instanceMethod yX3_hasEntry ∈ lw_gd ∧ Cond.selects yX3_hasEntry.cls yX3_hasEntry yX3_hasEntry ∈ lw_gd := ⟨k_im_yX3_hasEntry, k_sel_yX3_hasEntry⟩
theorem v_X9_cell : rg_vm yX9_cell cX9_cell 2 (some FieldType.int) 2 := ⟨k_co_yX9_cell, k_in_X9, by decide +kernel⟩
theorem v_X2_isAt : rg_vm yX2_isAt cX2_isAt 2 (some FieldType.boolean) 1 := ⟨k_co_yX2_isAt, k_in_X2, by decide +kernel⟩
theorem i_X2_isAt : Cond.instanceMethod yX2_isAt ∈ lw_gd ∧ Cond.selects yX2_isAt.cls yX2_isAt yX2_isAt ∈ lw_gd := ⟨k_im_yX2_isAt, k_sel_yX2_isAt⟩
theorem v_X3_scoreRace : rg_vm yX3_scoreRace cX3_scoreRace 4 none 1 := ⟨k_co_yX3_scoreRace, k_in_X3, by decide +kernel⟩
theorem i_X3_scoreRace : Cond.instanceMethod yX3_scoreRace ∈ lw_gd ∧ Cond.selects yX3_scoreRace.cls yX3_scoreRace yX3_scoreRace ∈ lw_gd := ⟨k_im_yX3_scoreRace, k_sel_yX3_scoreRace⟩
theorem v_X3_countPlaces : rg_vm yX3_countPlaces cX3_countPlaces 4 none 1 := ⟨k_co_yX3_countPlaces, k_in_X3, by decide +kernel⟩
theorem i_X3_countPlaces : Cond.instanceMethod yX3_countPlaces ∈ lw_gd ∧ Cond.selects yX3_countPlaces.cls yX3_countPlaces yX3_countPlaces ∈ lw_gd := ⟨k_im_yX3_countPlaces, k_sel_yX3_countPlaces⟩
theorem v_X3_pointsWithoutOthers : rg_vm yX3_pointsWithoutOthers cX3_pointsWithoutOthers 3 (some FieldType.int) 2 := ⟨k_co_yX3_pointsWithoutOthers, k_in_X3, by decide +kernel⟩
theorem i_X3_pointsWithoutOthers : Cond.instanceMethod yX3_pointsWithoutOthers ∈ lw_gd ∧ Cond.selects yX3_pointsWithoutOthers.cls yX3_pointsWithoutOthers yX3_pointsWithoutOthers ∈ lw_gd := ⟨k_im_yX3_pointsWithoutOthers, k_sel_yX3_pointsWithoutOthers⟩
theorem v_X3_pointsOfPlace : rg_vm yX3_pointsOfPlace cX3_pointsOfPlace 6 (some FieldType.int) 3 := ⟨k_co_yX3_pointsOfPlace, k_in_X3, by decide +kernel⟩
theorem i_X3_pointsOfPlace : Cond.instanceMethod yX3_pointsOfPlace ∈ lw_gd ∧ Cond.selects yX3_pointsOfPlace.cls yX3_pointsOfPlace yX3_pointsOfPlace ∈ lw_gd := ⟨k_im_yX3_pointsOfPlace, k_sel_yX3_pointsOfPlace⟩
theorem v_X3_pointsOfLast : rg_vm yX3_pointsOfLast cX3_pointsOfLast 2 (some FieldType.int) 1 := ⟨k_co_yX3_pointsOfLast, k_in_X3, by decide +kernel⟩
theorem i_X3_pointsOfLast : Cond.instanceMethod yX3_pointsOfLast ∈ lw_gd ∧ Cond.selects yX3_pointsOfLast.cls yX3_pointsOfLast yX3_pointsOfLast ∈ lw_gd := ⟨k_im_yX3_pointsOfLast, k_sel_yX3_pointsOfLast⟩
theorem v_J9_min_7cf53 : rg_vm yJ9_min_7cf53 cJ9_min_7cf53 2 (some FieldType.int) 2 := ⟨k_co_yJ9_min_7cf53, k_in_J9, by decide +kernel⟩
theorem v_X3_scoreAverages : rg_vm yX3_scoreAverages cX3_scoreAverages 4 none 1 := ⟨k_co_yX3_scoreAverages, k_in_X3, by decide +kernel⟩
theorem i_X3_scoreAverages : Cond.instanceMethod yX3_scoreAverages ∈ lw_gd ∧ Cond.selects yX3_scoreAverages.cls yX3_scoreAverages yX3_scoreAverages ∈ lw_gd := ⟨k_im_yX3_scoreAverages, k_sel_yX3_scoreAverages⟩
theorem v_X3_averageBelow : rg_vm yX3_averageBelow cX3_averageBelow 8 (some FieldType.int) 3 := ⟨k_co_yX3_averageBelow, k_in_X3, by decide +kernel⟩
theorem i_X3_averageBelow : Cond.instanceMethod yX3_averageBelow ∈ lw_gd ∧ Cond.selects yX3_averageBelow.cls yX3_averageBelow yX3_averageBelow ∈ lw_gd := ⟨k_im_yX3_averageBelow, k_sel_yX3_averageBelow⟩
theorem v_X2_isRedressAt : rg_vm yX2_isRedressAt cX2_isRedressAt 2 (some FieldType.boolean) 1 := ⟨k_co_yX2_isRedressAt, k_in_X2, by decide +kernel⟩
theorem i_X2_isRedressAt : Cond.instanceMethod yX2_isRedressAt ∈ lw_gd ∧ Cond.selects yX2_isRedressAt.cls yX2_isRedressAt yX2_isRedressAt ∈ lw_gd := ⟨k_im_yX2_isRedressAt, k_sel_yX2_isRedressAt⟩
theorem v_X6_calculate : rg_vm yX6_calculate cX6_calculate 2 none 0 := ⟨k_co_yX6_calculate, k_in_X6, by decide +kernel⟩
theorem i_X6_calculate : Cond.instanceMethod yX6_calculate ∈ lw_gd ∧ Cond.selects yX6_calculate.cls yX6_calculate yX6_calculate ∈ lw_gd := ⟨k_im_yX6_calculate, k_sel_yX6_calculate⟩
theorem v_X6_addUp : rg_vm yX6_addUp cX6_addUp 4 none 1 := ⟨k_co_yX6_addUp, k_in_X6, by decide +kernel⟩
theorem i_X6_addUp : Cond.instanceMethod yX6_addUp ∈ lw_gd ∧ Cond.selects yX6_addUp.cls yX6_addUp yX6_addUp ∈ lw_gd := ⟨k_im_yX6_addUp, k_sel_yX6_addUp⟩
theorem v_X6_leaveOut : rg_vm yX6_leaveOut cX6_leaveOut 5 none 1 := ⟨k_co_yX6_leaveOut, k_in_X6, by decide +kernel⟩
theorem i_X6_leaveOut : Cond.instanceMethod yX6_leaveOut ∈ lw_gd ∧ Cond.selects yX6_leaveOut.cls yX6_leaveOut yX6_leaveOut ∈ lw_gd := ⟨k_im_yX6_leaveOut, k_sel_yX6_leaveOut⟩
theorem v_X8_allowedOf : rg_vm yX8_allowedOf cX8_allowedOf 4 (some FieldType.int) 1 := ⟨k_co_yX8_allowedOf, k_in_X8, by decide +kernel⟩
theorem i_X8_allowedOf : Cond.instanceMethod yX8_allowedOf ∈ lw_gd ∧ Cond.selects yX8_allowedOf.cls yX8_allowedOf yX8_allowedOf ∈ lw_gd := ⟨k_im_yX8_allowedOf, k_sel_yX8_allowedOf⟩
theorem v_X6_worstLeft : rg_vm yX6_worstLeft cX6_worstLeft 4 (some FieldType.int) 1 := ⟨k_co_yX6_worstLeft, k_in_X6, by decide +kernel⟩
theorem i_X6_worstLeft : Cond.instanceMethod yX6_worstLeft ∈ lw_gd ∧ Cond.selects yX6_worstLeft.cls yX6_worstLeft yX6_worstLeft ∈ lw_gd := ⟨k_im_yX6_worstLeft, k_sel_yX6_worstLeft⟩
theorem v_X6_canLeaveOut : rg_vm yX6_canLeaveOut cX6_canLeaveOut 4 (some FieldType.boolean) 2 := ⟨k_co_yX6_canLeaveOut, k_in_X6, by decide +kernel⟩
theorem i_X6_canLeaveOut : Cond.instanceMethod yX6_canLeaveOut ∈ lw_gd ∧ Cond.selects yX6_canLeaveOut.cls yX6_canLeaveOut yX6_canLeaveOut ∈ lw_gd := ⟨k_im_yX6_canLeaveOut, k_sel_yX6_canLeaveOut⟩
theorem v_X5_calculate : rg_vm yX5_calculate cX5_calculate 2 none 0 := ⟨k_co_yX5_calculate, k_in_X5, by decide +kernel⟩
theorem i_X5_calculate : Cond.instanceMethod yX5_calculate ∈ lw_gd ∧ Cond.selects yX5_calculate.cls yX5_calculate yX5_calculate ∈ lw_gd := ⟨k_im_yX5_calculate, k_sel_yX5_calculate⟩
theorem v_X5_fillRow : rg_vm yX5_fillRow cX5_fillRow 7 none 1 := ⟨k_co_yX5_fillRow, k_in_X5, by decide +kernel⟩
theorem i_X5_fillRow : Cond.instanceMethod yX5_fillRow ∈ lw_gd ∧ Cond.selects yX5_fillRow.cls yX5_fillRow yX5_fillRow ∈ lw_gd := ⟨k_im_yX5_fillRow, k_sel_yX5_fillRow⟩
theorem v_X5_insertKept : rg_vm yX5_insertKept cX5_insertKept 5 none 3 := ⟨k_co_yX5_insertKept, k_in_X5, by decide +kernel⟩
theorem i_X5_insertKept : Cond.instanceMethod yX5_insertKept ∈ lw_gd ∧ Cond.selects yX5_insertKept.cls yX5_insertKept yX5_insertKept ∈ lw_gd := ⟨k_im_yX5_insertKept, k_sel_yX5_insertKept⟩
theorem v_X5_insertInOrder : rg_vm yX5_insertInOrder cX5_insertInOrder 3 none 1 := ⟨k_co_yX5_insertInOrder, k_in_X5, by decide +kernel⟩
theorem i_X5_insertInOrder : Cond.instanceMethod yX5_insertInOrder ∈ lw_gd ∧ Cond.selects yX5_insertInOrder.cls yX5_insertInOrder yX5_insertInOrder ∈ lw_gd := ⟨k_im_yX5_insertInOrder, k_sel_yX5_insertInOrder⟩
theorem v_X5_isBefore : rg_vm yX5_isBefore cX5_isBefore 4 (some FieldType.boolean) 2 := ⟨k_co_yX5_isBefore, k_in_X5, by decide +kernel⟩
theorem i_X5_isBefore : Cond.instanceMethod yX5_isBefore ∈ lw_gd ∧ Cond.selects yX5_isBefore.cls yX5_isBefore yX5_isBefore ∈ lw_gd := ⟨k_im_yX5_isBefore, k_sel_yX5_isBefore⟩
theorem v_X5_firstDifference : rg_vm yX5_firstDifference cX5_firstDifference 4 (some FieldType.int) 2 := ⟨k_co_yX5_firstDifference, k_in_X5, by decide +kernel⟩
theorem i_X5_firstDifference : Cond.instanceMethod yX5_firstDifference ∈ lw_gd ∧ Cond.selects yX5_firstDifference.cls yX5_firstDifference yX5_firstDifference ∈ lw_gd := ⟨k_im_yX5_firstDifference, k_sel_yX5_firstDifference⟩
theorem v_X7_restart : rg_vm yX7_restart cX7_restart 1 none 0 := ⟨k_co_yX7_restart, k_in_X7, by decide +kernel⟩
theorem i_X7_restart : Cond.instanceMethod yX7_restart ∈ lw_gd ∧ Cond.selects yX7_restart.cls yX7_restart yX7_restart ∈ lw_gd := ⟨k_im_yX7_restart, k_sel_yX7_restart⟩
theorem v_X5_boatOfRank : rg_vm yX5_boatOfRank cX5_boatOfRank 2 (some FieldType.int) 1 := ⟨k_co_yX5_boatOfRank, k_in_X5, by decide +kernel⟩
theorem i_X5_boatOfRank : Cond.instanceMethod yX5_boatOfRank ∈ lw_gd ∧ Cond.selects yX5_boatOfRank.cls yX5_boatOfRank yX5_boatOfRank ∈ lw_gd := ⟨k_im_yX5_boatOfRank, k_sel_yX5_boatOfRank⟩
theorem v_X9_writeLine : rg_vm yX9_writeLine cX9_writeLine 4 none 2 := ⟨k_co_yX9_writeLine, k_in_X9, by decide +kernel⟩
theorem i_X9_writeLine : Cond.instanceMethod yX9_writeLine ∈ lw_gd ∧ Cond.selects yX9_writeLine.cls yX9_writeLine yX9_writeLine ∈ lw_gd := ⟨k_im_yX9_writeLine, k_sel_yX9_writeLine⟩
theorem v_X7_putNumber : rg_vm yX7_putNumber cX7_putNumber 3 none 1 := ⟨k_co_yX7_putNumber, k_in_X7, by decide +kernel⟩
theorem i_X7_putNumber : Cond.instanceMethod yX7_putNumber ∈ lw_gd ∧ Cond.selects yX7_putNumber.cls yX7_putNumber yX7_putNumber ∈ lw_gd := ⟨k_im_yX7_putNumber, k_sel_yX7_putNumber⟩
theorem v_X7_putByte : rg_vm yX7_putByte cX7_putByte 2 none 1 := ⟨k_co_yX7_putByte, k_in_X7, by decide +kernel⟩
theorem i_X7_putByte : Cond.instanceMethod yX7_putByte ∈ lw_gd ∧ Cond.selects yX7_putByte.cls yX7_putByte yX7_putByte ∈ lw_gd := ⟨k_im_yX7_putByte, k_sel_yX7_putByte⟩
theorem v_X7_putText : rg_vm yX7_putText cX7_putText 3 none 1 := ⟨k_co_yX7_putText, k_in_X7, by decide +kernel⟩
theorem i_X7_putText : Cond.instanceMethod yX7_putText ∈ lw_gd ∧ Cond.selects yX7_putText.cls yX7_putText yX7_putText ∈ lw_gd := ⟨k_im_yX7_putText, k_sel_yX7_putText⟩
theorem v_J0_length_8abf5 : rg_vm yJ0_length_8abf5 cJ0_length_8abf5 1 (some FieldType.int) 0 := ⟨k_co_yJ0_length_8abf5, k_in_J0, by decide +kernel⟩
theorem i_J0_length_8abf5 : Cond.instanceMethod yJ0_length_8abf5 ∈ lw_gd ∧ Cond.selects yJ0_length_8abf5.cls yJ0_length_8abf5 yJ0_length_8abf5 ∈ lw_gd := ⟨k_im_yJ0_length_8abf5, k_sel_yJ0_length_8abf5⟩
theorem v_J0_coder_7d493 : rg_vm yJ0_coder_7d493 cJ0_coder_7d493 1 (some FieldType.byte) 0 := ⟨k_co_yJ0_coder_7d493, k_in_J0, by decide +kernel⟩
theorem i_J0_coder_7d493 : Cond.instanceMethod yJ0_coder_7d493 ∈ lw_gd ∧ Cond.selects yJ0_coder_7d493.cls yJ0_coder_7d493 yJ0_coder_7d493 ∈ lw_gd := ⟨k_im_yJ0_coder_7d493, k_sel_yJ0_coder_7d493⟩
theorem v_J0_charAt_5068e : rg_vm yJ0_charAt_5068e cJ0_charAt_5068e 2 (some FieldType.char) 1 := ⟨k_co_yJ0_charAt_5068e, k_in_J0, by decide +kernel⟩
theorem i_J0_charAt_5068e : Cond.instanceMethod yJ0_charAt_5068e ∈ lw_gd ∧ Cond.selects yJ0_charAt_5068e.cls yJ0_charAt_5068e yJ0_charAt_5068e ∈ lw_gd := ⟨k_im_yJ0_charAt_5068e, k_sel_yJ0_charAt_5068e⟩
theorem v_J0_isLatin1_aae02 : rg_vm yJ0_isLatin1_aae02 cJ0_isLatin1_aae02 1 (some FieldType.boolean) 0 := ⟨k_co_yJ0_isLatin1_aae02, k_in_J0, by decide +kernel⟩
theorem i_J0_isLatin1_aae02 : Cond.instanceMethod yJ0_isLatin1_aae02 ∈ lw_gd ∧ Cond.selects yJ0_isLatin1_aae02.cls yJ0_isLatin1_aae02 yJ0_isLatin1_aae02 ∈ lw_gd := ⟨k_im_yJ0_isLatin1_aae02, k_sel_yJ0_isLatin1_aae02⟩
theorem v_J1_charAt_3b067 : rg_vm yJ1_charAt_3b067 cJ1_charAt_3b067 2 (some FieldType.char) 2 := ⟨k_co_yJ1_charAt_3b067, k_in_J1, by decide +kernel⟩
theorem v_J0_checkIndex_df160 : rg_vm yJ0_checkIndex_df160 cJ0_checkIndex_df160 2 none 2 := ⟨k_co_yJ0_checkIndex_df160, k_in_J0, by decide +kernel⟩
theorem v_J3_checkIndex_8e157 : rg_vm yJ3_checkIndex_8e157 cJ3_checkIndex_8e157 3 (some FieldType.int) 3 := ⟨k_co_yJ3_checkIndex_8e157, k_in_J3, by decide +kernel⟩
theorem v_J2_charAt_3b067 : rg_vm yJ2_charAt_3b067 cJ2_charAt_3b067 2 (some FieldType.char) 2 := ⟨k_co_yJ2_charAt_3b067, k_in_J2, by decide +kernel⟩
theorem v_J2_checkIndex_2214a : rg_vm yJ2_checkIndex_2214a cJ2_checkIndex_2214a 2 none 2 := ⟨k_co_yJ2_checkIndex_2214a, k_in_J2, by decide +kernel⟩
theorem v_J2_length_9d52b : rg_vm yJ2_length_9d52b cJ2_length_9d52b 1 (some FieldType.int) 1 := ⟨k_co_yJ2_length_9d52b, k_in_J2, by decide +kernel⟩
theorem v_J2_getChar_3b067 : rg_vm yJ2_getChar_3b067 cJ2_getChar_3b067 2 (some FieldType.char) 2 := ⟨k_co_yJ2_getChar_3b067, k_in_J2, by decide +kernel⟩
theorem v_X7_putTenths : rg_vm yX7_putTenths cX7_putTenths 2 none 1 := ⟨k_co_yX7_putTenths, k_in_X7, by decide +kernel⟩
theorem i_X7_putTenths : Cond.instanceMethod yX7_putTenths ∈ lw_gd ∧ Cond.selects yX7_putTenths.cls yX7_putTenths yX7_putTenths ∈ lw_gd := ⟨k_im_yX7_putTenths, k_sel_yX7_putTenths⟩
theorem v_X9_writeScore : rg_vm yX9_writeScore cX9_writeScore 3 none 1 := ⟨k_co_yX9_writeScore, k_in_X9, by decide +kernel⟩
theorem i_X9_writeScore : Cond.instanceMethod yX9_writeScore ∈ lw_gd ∧ Cond.selects yX9_writeScore.cls yX9_writeScore yX9_writeScore ∈ lw_gd := ⟨k_im_yX9_writeScore, k_sel_yX9_writeScore⟩
theorem v_X9_shortName : rg_vm yX9_shortName cX9_shortName 2 (some (FieldType.object "java/lang/String")) 2 := ⟨k_co_yX9_shortName, k_in_X9, by decide +kernel⟩
theorem v_X9_boat : rg_vm yX9_boat cX9_boat 1 (some FieldType.int) 0 := ⟨k_co_yX9_boat, k_in_X9, by decide +kernel⟩
theorem i_X9_boat : Cond.instanceMethod yX9_boat ∈ lw_gd ∧ Cond.selects yX9_boat.cls yX9_boat yX9_boat ∈ lw_gd := ⟨k_im_yX9_boat, k_sel_yX9_boat⟩
theorem v_X0_addOne : rg_vm yX0_addOne cX0_addOne 1 (some FieldType.int) 0 := ⟨k_co_yX0_addOne, k_in_X0, by decide +kernel⟩
theorem i_X0_addOne : Cond.instanceMethod yX0_addOne ∈ lw_gd ∧ Cond.selects yX0_addOne.cls yX0_addOne yX0_addOne ∈ lw_gd := ⟨k_im_yX0_addOne, k_sel_yX0_addOne⟩
theorem v_X9_race : rg_vm yX9_race cX9_race 3 (some FieldType.int) 2 := ⟨k_co_yX9_race, k_in_X9, by decide +kernel⟩
theorem i_X9_race : Cond.instanceMethod yX9_race ∈ lw_gd ∧ Cond.selects yX9_race.cls yX9_race yX9_race ∈ lw_gd := ⟨k_im_yX9_race, k_sel_yX9_race⟩
theorem v_X9_fitsTheSplit : rg_vm yX9_fitsTheSplit cX9_fitsTheSplit 3 (some FieldType.boolean) 2 := ⟨k_co_yX9_fitsTheSplit, k_in_X9, by decide +kernel⟩
theorem i_X9_fitsTheSplit : Cond.instanceMethod yX9_fitsTheSplit ∈ lw_gd ∧ Cond.selects yX9_fitsTheSplit.cls yX9_fitsTheSplit yX9_fitsTheSplit ∈ lw_gd := ⟨k_im_yX9_fitsTheSplit, k_sel_yX9_fitsTheSplit⟩
theorem v_X4_addOne : rg_vm yX4_addOne cX4_addOne 3 (some FieldType.int) 2 := ⟨k_co_yX4_addOne, k_in_X4, by decide +kernel⟩
theorem i_X4_addOne : Cond.instanceMethod yX4_addOne ∈ lw_gd ∧ Cond.selects yX4_addOne.cls yX4_addOne yX4_addOne ∈ lw_gd := ⟨k_im_yX4_addOne, k_sel_yX4_addOne⟩
theorem v_X9_abandon : rg_vm yX9_abandon cX9_abandon 4 (some FieldType.boolean) 2 := ⟨k_co_yX9_abandon, k_in_X9, by decide +kernel⟩
theorem i_X9_abandon : Cond.instanceMethod yX9_abandon ∈ lw_gd ∧ Cond.selects yX9_abandon.cls yX9_abandon yX9_abandon ∈ lw_gd := ⟨k_im_yX9_abandon, k_sel_yX9_abandon⟩
theorem v_X9_requireRace : rg_vm yX9_requireRace cX9_requireRace 2 none 1 := ⟨k_co_yX9_requireRace, k_in_X9, by decide +kernel⟩
theorem i_X9_requireRace : Cond.instanceMethod yX9_requireRace ∈ lw_gd ∧ Cond.selects yX9_requireRace.cls yX9_requireRace yX9_requireRace ∈ lw_gd := ⟨k_im_yX9_requireRace, k_sel_yX9_requireRace⟩
theorem v_X9_finish : rg_vm yX9_finish cX9_finish 4 none 3 := ⟨k_co_yX9_finish, k_in_X9, by decide +kernel⟩
theorem i_X9_finish : Cond.instanceMethod yX9_finish ∈ lw_gd ∧ Cond.selects yX9_finish.cls yX9_finish yX9_finish ∈ lw_gd := ⟨k_im_yX9_finish, k_sel_yX9_finish⟩
theorem v_X9_requireRaceOfBoat : rg_vm yX9_requireRaceOfBoat cX9_requireRaceOfBoat 3 none 2 := ⟨k_co_yX9_requireRaceOfBoat, k_in_X9, by decide +kernel⟩
theorem i_X9_requireRaceOfBoat : Cond.instanceMethod yX9_requireRaceOfBoat ∈ lw_gd ∧ Cond.selects yX9_requireRaceOfBoat.cls yX9_requireRaceOfBoat yX9_requireRaceOfBoat ∈ lw_gd := ⟨k_im_yX9_requireRaceOfBoat, k_sel_yX9_requireRaceOfBoat⟩
theorem v_X9_requireRaceAndBoat : rg_vm yX9_requireRaceAndBoat cX9_requireRaceAndBoat 3 none 2 := ⟨k_co_yX9_requireRaceAndBoat, k_in_X9, by decide +kernel⟩
theorem i_X9_requireRaceAndBoat : Cond.instanceMethod yX9_requireRaceAndBoat ∈ lw_gd ∧ Cond.selects yX9_requireRaceAndBoat.cls yX9_requireRaceAndBoat yX9_requireRaceAndBoat ∈ lw_gd := ⟨k_im_yX9_requireRaceAndBoat, k_sel_yX9_requireRaceAndBoat⟩
theorem v_X9_requireBoat : rg_vm yX9_requireBoat cX9_requireBoat 2 none 1 := ⟨k_co_yX9_requireBoat, k_in_X9, by decide +kernel⟩
theorem i_X9_requireBoat : Cond.instanceMethod yX9_requireBoat ∈ lw_gd ∧ Cond.selects yX9_requireBoat.cls yX9_requireBoat yX9_requireBoat ∈ lw_gd := ⟨k_im_yX9_requireBoat, k_sel_yX9_requireBoat⟩
theorem v_X9_requireEntry : rg_vm yX9_requireEntry cX9_requireEntry 2 none 2 := ⟨k_co_yX9_requireEntry, k_in_X9, by decide +kernel⟩
theorem v_X9_isEntry : rg_vm yX9_isEntry cX9_isEntry 2 (some FieldType.boolean) 2 := ⟨k_co_yX9_isEntry, k_in_X9, by decide +kernel⟩
theorem v_X9_code : rg_vm yX9_code cX9_code 5 none 4 := ⟨k_co_yX9_code, k_in_X9, by decide +kernel⟩
theorem i_X9_code : Cond.instanceMethod yX9_code ∈ lw_gd ∧ Cond.selects yX9_code.cls yX9_code yX9_code ∈ lw_gd := ⟨k_im_yX9_code, k_sel_yX9_code⟩
theorem v_X9_penalty : rg_vm yX9_penalty cX9_penalty 4 none 3 := ⟨k_co_yX9_penalty, k_in_X9, by decide +kernel⟩
theorem i_X9_penalty : Cond.instanceMethod yX9_penalty ∈ lw_gd ∧ Cond.selects yX9_penalty.cls yX9_penalty yX9_penalty ∈ lw_gd := ⟨k_im_yX9_penalty, k_sel_yX9_penalty⟩
theorem v_X9_clear : rg_vm yX9_clear cX9_clear 4 (some FieldType.boolean) 2 := ⟨k_co_yX9_clear, k_in_X9, by decide +kernel⟩
theorem i_X9_clear : Cond.instanceMethod yX9_clear ∈ lw_gd ∧ Cond.selects yX9_clear.cls yX9_clear yX9_clear ∈ lw_gd := ⟨k_im_yX9_clear, k_sel_yX9_clear⟩
theorem v_X2_remove : rg_vm yX2_remove cX2_remove 2 none 1 := ⟨k_co_yX2_remove, k_in_X2, by decide +kernel⟩
theorem i_X2_remove : Cond.instanceMethod yX2_remove ∈ lw_gd ∧ Cond.selects yX2_remove.cls yX2_remove yX2_remove ∈ lw_gd := ⟨k_im_yX2_remove, k_sel_yX2_remove⟩
theorem v_X9_protest : rg_vm yX9_protest cX9_protest 5 (some FieldType.int) 4 := ⟨k_co_yX9_protest, k_in_X9, by decide +kernel⟩
theorem i_X9_protest : Cond.instanceMethod yX9_protest ∈ lw_gd ∧ Cond.selects yX9_protest.cls yX9_protest yX9_protest ∈ lw_gd := ⟨k_im_yX9_protest, k_sel_yX9_protest⟩
theorem v_X1_addOne : rg_vm yX1_addOne cX1_addOne 4 (some FieldType.int) 3 := ⟨k_co_yX1_addOne, k_in_X1, by decide +kernel⟩
theorem i_X1_addOne : Cond.instanceMethod yX1_addOne ∈ lw_gd ∧ Cond.selects yX1_addOne.cls yX1_addOne yX1_addOne ∈ lw_gd := ⟨k_im_yX1_addOne, k_sel_yX1_addOne⟩
theorem v_X9_reopen : rg_vm yX9_reopen cX9_reopen 2 none 1 := ⟨k_co_yX9_reopen, k_in_X9, by decide +kernel⟩
theorem i_X9_reopen : Cond.instanceMethod yX9_reopen ∈ lw_gd ∧ Cond.selects yX9_reopen.cls yX9_reopen yX9_reopen ∈ lw_gd := ⟨k_im_yX9_reopen, k_sel_yX9_reopen⟩
theorem v_X9_discards : rg_vm yX9_discards cX9_discards 3 none 2 := ⟨k_co_yX9_discards, k_in_X9, by decide +kernel⟩
theorem i_X9_discards : Cond.instanceMethod yX9_discards ∈ lw_gd ∧ Cond.selects yX9_discards.cls yX9_discards yX9_discards ∈ lw_gd := ⟨k_im_yX9_discards, k_sel_yX9_discards⟩
theorem v_X8_isAboveLatest : rg_vm yX8_isAboveLatest cX8_isAboveLatest 3 (some FieldType.boolean) 2 := ⟨k_co_yX8_isAboveLatest, k_in_X8, by decide +kernel⟩
theorem i_X8_isAboveLatest : Cond.instanceMethod yX8_isAboveLatest ∈ lw_gd ∧ Cond.selects yX8_isAboveLatest.cls yX8_isAboveLatest yX8_isAboveLatest ∈ lw_gd := ⟨k_im_yX8_isAboveLatest, k_sel_yX8_isAboveLatest⟩
theorem v_X8_addOne : rg_vm yX8_addOne cX8_addOne 3 none 2 := ⟨k_co_yX8_addOne, k_in_X8, by decide +kernel⟩
theorem i_X8_addOne : Cond.instanceMethod yX8_addOne ∈ lw_gd ∧ Cond.selects yX8_addOne.cls yX8_addOne yX8_addOne ∈ lw_gd := ⟨k_im_yX8_addOne, k_sel_yX8_addOne⟩
theorem v_X9_lot : rg_vm yX9_lot cX9_lot 4 (some FieldType.int) 2 := ⟨k_co_yX9_lot, k_in_X9, by decide +kernel⟩
theorem i_X9_lot : Cond.instanceMethod yX9_lot ∈ lw_gd ∧ Cond.selects yX9_lot.cls yX9_lot yX9_lot ∈ lw_gd := ⟨k_im_yX9_lot, k_sel_yX9_lot⟩
theorem v_X9_split : rg_vm yX9_split cX9_split 4 (some FieldType.int) 2 := ⟨k_co_yX9_split, k_in_X9, by decide +kernel⟩
theorem i_X9_split : Cond.instanceMethod yX9_split ∈ lw_gd ∧ Cond.selects yX9_split.cls yX9_split yX9_split ∈ lw_gd := ⟨k_im_yX9_split, k_sel_yX9_split⟩
theorem v_X3_isAnyRaceSailed : rg_vm yX3_isAnyRaceSailed cX3_isAnyRaceSailed 2 (some FieldType.boolean) 0 := ⟨k_co_yX3_isAnyRaceSailed, k_in_X3, by decide +kernel⟩
theorem i_X3_isAnyRaceSailed : Cond.instanceMethod yX3_isAnyRaceSailed ∈ lw_gd ∧ Cond.selects yX3_isAnyRaceSailed.cls yX3_isAnyRaceSailed yX3_isAnyRaceSailed ∈ lw_gd := ⟨k_im_yX3_isAnyRaceSailed, k_sel_yX3_isAnyRaceSailed⟩
theorem v_X9_fleetOfRank : rg_vm yX9_fleetOfRank cX9_fleetOfRank 3 (some FieldType.int) 3 := ⟨k_co_yX9_fleetOfRank, k_in_X9, by decide +kernel⟩
theorem v_X9_points : rg_vm yX9_points cX9_points 3 (some FieldType.int) 2 := ⟨k_co_yX9_points, k_in_X9, by decide +kernel⟩
theorem i_X9_points : Cond.instanceMethod yX9_points ∈ lw_gd ∧ Cond.selects yX9_points.cls yX9_points yX9_points ∈ lw_gd := ⟨k_im_yX9_points, k_sel_yX9_points⟩
theorem v_X9_isDiscard : rg_vm yX9_isDiscard cX9_isDiscard 3 (some FieldType.boolean) 2 := ⟨k_co_yX9_isDiscard, k_in_X9, by decide +kernel⟩
theorem i_X9_isDiscard : Cond.instanceMethod yX9_isDiscard ∈ lw_gd ∧ Cond.selects yX9_isDiscard.cls yX9_isDiscard yX9_isDiscard ∈ lw_gd := ⟨k_im_yX9_isDiscard, k_sel_yX9_isDiscard⟩
theorem v_X9_net : rg_vm yX9_net cX9_net 2 (some FieldType.int) 1 := ⟨k_co_yX9_net, k_in_X9, by decide +kernel⟩
theorem i_X9_net : Cond.instanceMethod yX9_net ∈ lw_gd ∧ Cond.selects yX9_net.cls yX9_net yX9_net ∈ lw_gd := ⟨k_im_yX9_net, k_sel_yX9_net⟩
theorem v_X9_gross : rg_vm yX9_gross cX9_gross 2 (some FieldType.int) 1 := ⟨k_co_yX9_gross, k_in_X9, by decide +kernel⟩
theorem i_X9_gross : Cond.instanceMethod yX9_gross ∈ lw_gd ∧ Cond.selects yX9_gross.cls yX9_gross yX9_gross ∈ lw_gd := ⟨k_im_yX9_gross, k_sel_yX9_gross⟩
theorem v_X9_mean : rg_vm yX9_mean cX9_mean 3 (some FieldType.double) 1 := ⟨k_co_yX9_mean, k_in_X9, by decide +kernel⟩
theorem i_X9_mean : Cond.instanceMethod yX9_mean ∈ lw_gd ∧ Cond.selects yX9_mean.cls yX9_mean yX9_mean ∈ lw_gd := ⟨k_im_yX9_mean, k_sel_yX9_mean⟩
theorem v_X9_rank : rg_vm yX9_rank cX9_rank 2 (some FieldType.int) 1 := ⟨k_co_yX9_rank, k_in_X9, by decide +kernel⟩
theorem i_X9_rank : Cond.instanceMethod yX9_rank ∈ lw_gd ∧ Cond.selects yX9_rank.cls yX9_rank yX9_rank ∈ lw_gd := ⟨k_im_yX9_rank, k_sel_yX9_rank⟩
theorem v_X5_rankOfBoat : rg_vm yX5_rankOfBoat cX5_rankOfBoat 2 (some FieldType.int) 1 := ⟨k_co_yX5_rankOfBoat, k_in_X5, by decide +kernel⟩
theorem i_X5_rankOfBoat : Cond.instanceMethod yX5_rankOfBoat ∈ lw_gd ∧ Cond.selects yX5_rankOfBoat.cls yX5_rankOfBoat yX5_rankOfBoat ∈ lw_gd := ⟨k_im_yX5_rankOfBoat, k_sel_yX5_rankOfBoat⟩
theorem v_X9_at : rg_vm yX9_at cX9_at 2 (some FieldType.int) 1 := ⟨k_co_yX9_at, k_in_X9, by decide +kernel⟩
theorem i_X9_at : Cond.instanceMethod yX9_at ∈ lw_gd ∧ Cond.selects yX9_at.cls yX9_at yX9_at ∈ lw_gd := ⟨k_im_yX9_at, k_sel_yX9_at⟩
theorem v_X9_tie : rg_vm yX9_tie cX9_tie 3 (some FieldType.int) 2 := ⟨k_co_yX9_tie, k_in_X9, by decide +kernel⟩
theorem i_X9_tie : Cond.instanceMethod yX9_tie ∈ lw_gd ∧ Cond.selects yX9_tie.cls yX9_tie yX9_tie ∈ lw_gd := ⟨k_im_yX9_tie, k_sel_yX9_tie⟩
theorem v_X5_partingStep : rg_vm yX5_partingStep cX5_partingStep 4 (some FieldType.int) 2 := ⟨k_co_yX5_partingStep, k_in_X5, by decide +kernel⟩
theorem i_X5_partingStep : Cond.instanceMethod yX5_partingStep ∈ lw_gd ∧ Cond.selects yX5_partingStep.cls yX5_partingStep yX5_partingStep ∈ lw_gd := ⟨k_im_yX5_partingStep, k_sel_yX5_partingStep⟩
theorem v_X9_what : rg_vm yX9_what cX9_what 5 (some FieldType.int) 4 := ⟨k_co_yX9_what, k_in_X9, by decide +kernel⟩
theorem i_X9_what : Cond.instanceMethod yX9_what ∈ lw_gd ∧ Cond.selects yX9_what.cls yX9_what yX9_what ∈ lw_gd := ⟨k_im_yX9_what, k_sel_yX9_what⟩
theorem v_X1_dropLatest : rg_vm yX1_dropLatest cX1_dropLatest 1 none 0 := ⟨k_co_yX1_dropLatest, k_in_X1, by decide +kernel⟩
theorem i_X1_dropLatest : Cond.instanceMethod yX1_dropLatest ∈ lw_gd ∧ Cond.selects yX1_dropLatest.cls yX1_dropLatest yX1_dropLatest ∈ lw_gd := ⟨k_im_yX1_dropLatest, k_sel_yX1_dropLatest⟩
theorem v_X9_missing : rg_vm yX9_missing cX9_missing 5 (some FieldType.int) 2 := ⟨k_co_yX9_missing, k_in_X9, by decide +kernel⟩
theorem i_X9_missing : Cond.instanceMethod yX9_missing ∈ lw_gd ∧ Cond.selects yX9_missing.cls yX9_missing yX9_missing ∈ lw_gd := ⟨k_im_yX9_missing, k_sel_yX9_missing⟩
theorem v_X3_isMissing : rg_vm yX3_isMissing cX3_isMissing 3 (some FieldType.boolean) 2 := ⟨k_co_yX3_isMissing, k_in_X3, by decide +kernel⟩
theorem i_X3_isMissing : Cond.instanceMethod yX3_isMissing ∈ lw_gd ∧ Cond.selects yX3_isMissing.cls yX3_isMissing yX3_isMissing ∈ lw_gd := ⟨k_im_yX3_isMissing, k_sel_yX3_isMissing⟩
theorem v_X9_told : rg_vm yX9_told cX9_told 3 (some FieldType.int) 2 := ⟨k_co_yX9_told, k_in_X9, by decide +kernel⟩
theorem i_X9_told : Cond.instanceMethod yX9_told ∈ lw_gd ∧ Cond.selects yX9_told.cls yX9_told yX9_told ∈ lw_gd := ⟨k_im_yX9_told, k_sel_yX9_told⟩
theorem v_X9_sheetByte : rg_vm yX9_sheetByte cX9_sheetByte 2 (some FieldType.int) 1 := ⟨k_co_yX9_sheetByte, k_in_X9, by decide +kernel⟩
theorem i_X9_sheetByte : Cond.instanceMethod yX9_sheetByte ∈ lw_gd ∧ Cond.selects yX9_sheetByte.cls yX9_sheetByte yX9_sheetByte ∈ lw_gd := ⟨k_im_yX9_sheetByte, k_sel_yX9_sheetByte⟩
theorem v_X10_init : rg_vm yX10_init cX10_init 1 none 0 := ⟨k_co_yX10_init, k_in_X10, by decide +kernel⟩
theorem v_X10_thrown : rg_vm yX10_thrown cX10_thrown 1 (some FieldType.int) 0 := ⟨k_co_yX10_thrown, k_in_X10, by decide +kernel⟩
theorem i_X10_thrown : Cond.instanceMethod yX10_thrown ∈ lw_gd ∧ Cond.selects yX10_thrown.cls yX10_thrown yX10_thrown ∈ lw_gd := ⟨k_im_yX10_thrown, k_sel_yX10_thrown⟩
theorem v_X10_boat : rg_vm yX10_boat cX10_boat 1 (some FieldType.int) 0 := ⟨k_co_yX10_boat, k_in_X10, by decide +kernel⟩
theorem i_X10_boat : Cond.instanceMethod yX10_boat ∈ lw_gd ∧ Cond.selects yX10_boat.cls yX10_boat yX10_boat ∈ lw_gd := ⟨k_im_yX10_boat, k_sel_yX10_boat⟩
theorem v_X10_race : rg_vm yX10_race cX10_race 4 (some FieldType.int) 2 := ⟨k_co_yX10_race, k_in_X10, by decide +kernel⟩
theorem i_X10_race : Cond.instanceMethod yX10_race ∈ lw_gd ∧ Cond.selects yX10_race.cls yX10_race yX10_race ∈ lw_gd := ⟨k_im_yX10_race, k_sel_yX10_race⟩
theorem v_X10_in : rg_vm yX10_in cX10_in 3 (some FieldType.boolean) 3 := ⟨k_co_yX10_in, k_in_X10, by decide +kernel⟩
theorem v_X10_abandon : rg_vm yX10_abandon cX10_abandon 4 (some FieldType.boolean) 2 := ⟨k_co_yX10_abandon, k_in_X10, by decide +kernel⟩
theorem i_X10_abandon : Cond.instanceMethod yX10_abandon ∈ lw_gd ∧ Cond.selects yX10_abandon.cls yX10_abandon yX10_abandon ∈ lw_gd := ⟨k_im_yX10_abandon, k_sel_yX10_abandon⟩
theorem v_X10_finish : rg_vm yX10_finish cX10_finish 4 none 3 := ⟨k_co_yX10_finish, k_in_X10, by decide +kernel⟩
theorem i_X10_finish : Cond.instanceMethod yX10_finish ∈ lw_gd ∧ Cond.selects yX10_finish.cls yX10_finish yX10_finish ∈ lw_gd := ⟨k_im_yX10_finish, k_sel_yX10_finish⟩
theorem v_X10_wrong : rg_vm yX10_wrong cX10_wrong 6 (some FieldType.int) 4 := ⟨k_co_yX10_wrong, k_in_X10, by decide +kernel⟩
theorem i_X10_wrong : Cond.instanceMethod yX10_wrong ∈ lw_gd ∧ Cond.selects yX10_wrong.cls yX10_wrong yX10_wrong ∈ lw_gd := ⟨k_im_yX10_wrong, k_sel_yX10_wrong⟩
theorem v_X10_isThere : rg_vm yX10_isThere cX10_isThere 3 (some FieldType.boolean) 2 := ⟨k_co_yX10_isThere, k_in_X10, by decide +kernel⟩
theorem i_X10_isThere : Cond.instanceMethod yX10_isThere ∈ lw_gd ∧ Cond.selects yX10_isThere.cls yX10_isThere yX10_isThere ∈ lw_gd := ⟨k_im_yX10_isThere, k_sel_yX10_isThere⟩
theorem v_X10_isOf : rg_vm yX10_isOf cX10_isOf 3 (some FieldType.boolean) 2 := ⟨k_co_yX10_isOf, k_in_X10, by decide +kernel⟩
theorem i_X10_isOf : Cond.instanceMethod yX10_isOf ∈ lw_gd ∧ Cond.selects yX10_isOf.cls yX10_isOf yX10_isOf ∈ lw_gd := ⟨k_im_yX10_isOf, k_sel_yX10_isOf⟩
theorem v_X10_enter : rg_vm yX10_enter cX10_enter 6 none 4 := ⟨k_co_yX10_enter, k_in_X10, by decide +kernel⟩
theorem i_X10_enter : Cond.instanceMethod yX10_enter ∈ lw_gd ∧ Cond.selects yX10_enter.cls yX10_enter yX10_enter ∈ lw_gd := ⟨k_im_yX10_enter, k_sel_yX10_enter⟩
theorem v_X10_code : rg_vm yX10_code cX10_code 5 none 4 := ⟨k_co_yX10_code, k_in_X10, by decide +kernel⟩
theorem i_X10_code : Cond.instanceMethod yX10_code ∈ lw_gd ∧ Cond.selects yX10_code.cls yX10_code yX10_code ∈ lw_gd := ⟨k_im_yX10_code, k_sel_yX10_code⟩
theorem v_X10_penalty : rg_vm yX10_penalty cX10_penalty 4 none 3 := ⟨k_co_yX10_penalty, k_in_X10, by decide +kernel⟩
theorem i_X10_penalty : Cond.instanceMethod yX10_penalty ∈ lw_gd ∧ Cond.selects yX10_penalty.cls yX10_penalty yX10_penalty ∈ lw_gd := ⟨k_im_yX10_penalty, k_sel_yX10_penalty⟩
theorem v_X10_clear : rg_vm yX10_clear cX10_clear 4 (some FieldType.boolean) 2 := ⟨k_co_yX10_clear, k_in_X10, by decide +kernel⟩
theorem i_X10_clear : Cond.instanceMethod yX10_clear ∈ lw_gd ∧ Cond.selects yX10_clear.cls yX10_clear yX10_clear ∈ lw_gd := ⟨k_im_yX10_clear, k_sel_yX10_clear⟩
theorem v_X10_protest : rg_vm yX10_protest cX10_protest 5 (some FieldType.int) 4 := ⟨k_co_yX10_protest, k_in_X10, by decide +kernel⟩
theorem i_X10_protest : Cond.instanceMethod yX10_protest ∈ lw_gd ∧ Cond.selects yX10_protest.cls yX10_protest yX10_protest ∈ lw_gd := ⟨k_im_yX10_protest, k_sel_yX10_protest⟩
theorem v_X10_decide : rg_vm yX10_decide cX10_decide 5 none 4 := ⟨k_co_yX10_decide, k_in_X10, by decide +kernel⟩
theorem i_X10_decide : Cond.instanceMethod yX10_decide ∈ lw_gd ∧ Cond.selects yX10_decide.cls yX10_decide yX10_decide ∈ lw_gd := ⟨k_im_yX10_decide, k_sel_yX10_decide⟩
theorem v_X10_reopen : rg_vm yX10_reopen cX10_reopen 2 none 1 := ⟨k_co_yX10_reopen, k_in_X10, by decide +kernel⟩
theorem i_X10_reopen : Cond.instanceMethod yX10_reopen ∈ lw_gd ∧ Cond.selects yX10_reopen.cls yX10_reopen yX10_reopen ∈ lw_gd := ⟨k_im_yX10_reopen, k_sel_yX10_reopen⟩
theorem v_X10_discards : rg_vm yX10_discards cX10_discards 4 none 2 := ⟨k_co_yX10_discards, k_in_X10, by decide +kernel⟩
theorem i_X10_discards : Cond.instanceMethod yX10_discards ∈ lw_gd ∧ Cond.selects yX10_discards.cls yX10_discards yX10_discards ∈ lw_gd := ⟨k_im_yX10_discards, k_sel_yX10_discards⟩
theorem v_X10_lot : rg_vm yX10_lot cX10_lot 4 (some FieldType.int) 2 := ⟨k_co_yX10_lot, k_in_X10, by decide +kernel⟩
theorem i_X10_lot : Cond.instanceMethod yX10_lot ∈ lw_gd ∧ Cond.selects yX10_lot.cls yX10_lot yX10_lot ∈ lw_gd := ⟨k_im_yX10_lot, k_sel_yX10_lot⟩
theorem v_X10_split : rg_vm yX10_split cX10_split 5 (some FieldType.int) 2 := ⟨k_co_yX10_split, k_in_X10, by decide +kernel⟩
theorem i_X10_split : Cond.instanceMethod yX10_split ∈ lw_gd ∧ Cond.selects yX10_split.cls yX10_split yX10_split ∈ lw_gd := ⟨k_im_yX10_split, k_sel_yX10_split⟩
theorem v_X10_look : rg_vm yX10_look cX10_look 5 none 0 := ⟨k_co_yX10_look, k_in_X10, by decide +kernel⟩
theorem i_X10_look : Cond.instanceMethod yX10_look ∈ lw_gd ∧ Cond.selects yX10_look.cls yX10_look yX10_look ∈ lw_gd := ⟨k_im_yX10_look, k_sel_yX10_look⟩
theorem v_X10_latest : rg_vm yX10_latest cX10_latest 4 (some FieldType.int) 1 := ⟨k_co_yX10_latest, k_in_X10, by decide +kernel⟩
theorem i_X10_latest : Cond.instanceMethod yX10_latest ∈ lw_gd ∧ Cond.selects yX10_latest.cls yX10_latest yX10_latest ∈ lw_gd := ⟨k_im_yX10_latest, k_sel_yX10_latest⟩
theorem v_X10_reckon : rg_vm yX10_reckon cX10_reckon 4 none 0 := ⟨k_co_yX10_reckon, k_in_X10, by decide +kernel⟩
theorem i_X10_reckon : Cond.instanceMethod yX10_reckon ∈ lw_gd ∧ Cond.selects yX10_reckon.cls yX10_reckon yX10_reckon ∈ lw_gd := ⟨k_im_yX10_reckon, k_sel_yX10_reckon⟩
theorem v_X10_firstPoints : rg_vm yX10_firstPoints cX10_firstPoints 5 none 0 := ⟨k_co_yX10_firstPoints, k_in_X10, by decide +kernel⟩
theorem i_X10_firstPoints : Cond.instanceMethod yX10_firstPoints ∈ lw_gd ∧ Cond.selects yX10_firstPoints.cls yX10_firstPoints yX10_firstPoints ∈ lw_gd := ⟨k_im_yX10_firstPoints, k_sel_yX10_firstPoints⟩
theorem v_X10_sizeOf : rg_vm yX10_sizeOf cX10_sizeOf 4 (some FieldType.int) 1 := ⟨k_co_yX10_sizeOf, k_in_X10, by decide +kernel⟩
theorem i_X10_sizeOf : Cond.instanceMethod yX10_sizeOf ∈ lw_gd ∧ Cond.selects yX10_sizeOf.cls yX10_sizeOf yX10_sizeOf ∈ lw_gd := ⟨k_im_yX10_sizeOf, k_sel_yX10_sizeOf⟩
theorem v_X10_placePoints : rg_vm yX10_placePoints cX10_placePoints 10 (some FieldType.int) 3 := ⟨k_co_yX10_placePoints, k_in_X10, by decide +kernel⟩
theorem i_X10_placePoints : Cond.instanceMethod yX10_placePoints ∈ lw_gd ∧ Cond.selects yX10_placePoints.cls yX10_placePoints yX10_placePoints ∈ lw_gd := ⟨k_im_yX10_placePoints, k_sel_yX10_placePoints⟩
theorem v_X10_average : rg_vm yX10_average cX10_average 8 (some FieldType.int) 3 := ⟨k_co_yX10_average, k_in_X10, by decide +kernel⟩
theorem i_X10_average : Cond.instanceMethod yX10_average ∈ lw_gd ∧ Cond.selects yX10_average.cls yX10_average yX10_average ∈ lw_gd := ⟨k_im_yX10_average, k_sel_yX10_average⟩
theorem v_X10_isIn : rg_vm yX10_isIn cX10_isIn 3 (some FieldType.boolean) 2 := ⟨k_co_yX10_isIn, k_in_X10, by decide +kernel⟩
theorem i_X10_isIn : Cond.instanceMethod yX10_isIn ∈ lw_gd ∧ Cond.selects yX10_isIn.cls yX10_isIn yX10_isIn ∈ lw_gd := ⟨k_im_yX10_isIn, k_sel_yX10_isIn⟩
theorem v_X10_isRedress : rg_vm yX10_isRedress cX10_isRedress 1 (some FieldType.boolean) 1 := ⟨k_co_yX10_isRedress, k_in_X10, by decide +kernel⟩
theorem v_X10_sum : rg_vm yX10_sum cX10_sum 11 none 1 := ⟨k_co_yX10_sum, k_in_X10, by decide +kernel⟩
theorem i_X10_sum : Cond.instanceMethod yX10_sum ∈ lw_gd ∧ Cond.selects yX10_sum.cls yX10_sum yX10_sum ∈ lw_gd := ⟨k_im_yX10_sum, k_sel_yX10_sum⟩
theorem v_X10_scoreOf : rg_vm yX10_scoreOf cX10_scoreOf 3 (some FieldType.int) 2 := ⟨k_co_yX10_scoreOf, k_in_X10, by decide +kernel⟩
theorem i_X10_scoreOf : Cond.instanceMethod yX10_scoreOf ∈ lw_gd ∧ Cond.selects yX10_scoreOf.cls yX10_scoreOf yX10_scoreOf ∈ lw_gd := ⟨k_im_yX10_scoreOf, k_sel_yX10_scoreOf⟩
theorem v_X10_allowed : rg_vm yX10_allowed cX10_allowed 4 (some FieldType.int) 1 := ⟨k_co_yX10_allowed, k_in_X10, by decide +kernel⟩
theorem i_X10_allowed : Cond.instanceMethod yX10_allowed ∈ lw_gd ∧ Cond.selects yX10_allowed.cls yX10_allowed yX10_allowed ∈ lw_gd := ⟨k_im_yX10_allowed, k_sel_yX10_allowed⟩
theorem v_X10_mayGo : rg_vm yX10_mayGo cX10_mayGo 3 (some FieldType.boolean) 2 := ⟨k_co_yX10_mayGo, k_in_X10, by decide +kernel⟩
theorem i_X10_mayGo : Cond.instanceMethod yX10_mayGo ∈ lw_gd ∧ Cond.selects yX10_mayGo.cls yX10_mayGo yX10_mayGo ∈ lw_gd := ⟨k_im_yX10_mayGo, k_sel_yX10_mayGo⟩
theorem v_X10_rankAll : rg_vm yX10_rankAll cX10_rankAll 2 none 0 := ⟨k_co_yX10_rankAll, k_in_X10, by decide +kernel⟩
theorem i_X10_rankAll : Cond.instanceMethod yX10_rankAll ∈ lw_gd ∧ Cond.selects yX10_rankAll.cls yX10_rankAll yX10_rankAll ∈ lw_gd := ⟨k_im_yX10_rankAll, k_sel_yX10_rankAll⟩
theorem v_X10_rankOf : rg_vm yX10_rankOf cX10_rankOf 4 (some FieldType.int) 1 := ⟨k_co_yX10_rankOf, k_in_X10, by decide +kernel⟩
theorem i_X10_rankOf : Cond.instanceMethod yX10_rankOf ∈ lw_gd ∧ Cond.selects yX10_rankOf.cls yX10_rankOf yX10_rankOf ∈ lw_gd := ⟨k_im_yX10_rankOf, k_sel_yX10_rankOf⟩
theorem v_X10_order : rg_vm yX10_order cX10_order 4 (some FieldType.int) 2 := ⟨k_co_yX10_order, k_in_X10, by decide +kernel⟩
theorem i_X10_order : Cond.instanceMethod yX10_order ∈ lw_gd ∧ Cond.selects yX10_order.cls yX10_order yX10_order ∈ lw_gd := ⟨k_im_yX10_order, k_sel_yX10_order⟩
theorem v_X10_byScores : rg_vm yX10_byScores cX10_byScores 10 (some FieldType.int) 2 := ⟨k_co_yX10_byScores, k_in_X10, by decide +kernel⟩
theorem i_X10_byScores : Cond.instanceMethod yX10_byScores ∈ lw_gd ∧ Cond.selects yX10_byScores.cls yX10_byScores yX10_byScores ∈ lw_gd := ⟨k_im_yX10_byScores, k_sel_yX10_byScores⟩
theorem v_X10_many : rg_vm yX10_many cX10_many 5 (some FieldType.int) 2 := ⟨k_co_yX10_many, k_in_X10, by decide +kernel⟩
theorem i_X10_many : Cond.instanceMethod yX10_many ∈ lw_gd ∧ Cond.selects yX10_many.cls yX10_many yX10_many ∈ lw_gd := ⟨k_im_yX10_many, k_sel_yX10_many⟩
theorem v_X10_fromTheLast : rg_vm yX10_fromTheLast cX10_fromTheLast 5 (some FieldType.int) 2 := ⟨k_co_yX10_fromTheLast, k_in_X10, by decide +kernel⟩
theorem i_X10_fromTheLast : Cond.instanceMethod yX10_fromTheLast ∈ lw_gd ∧ Cond.selects yX10_fromTheLast.cls yX10_fromTheLast yX10_fromTheLast ∈ lw_gd := ⟨k_im_yX10_fromTheLast, k_sel_yX10_fromTheLast⟩
theorem v_X10_points : rg_vm yX10_points cX10_points 3 (some FieldType.int) 2 := ⟨k_co_yX10_points, k_in_X10, by decide +kernel⟩
theorem i_X10_points : Cond.instanceMethod yX10_points ∈ lw_gd ∧ Cond.selects yX10_points.cls yX10_points yX10_points ∈ lw_gd := ⟨k_im_yX10_points, k_sel_yX10_points⟩
theorem v_X10_isDiscard : rg_vm yX10_isDiscard cX10_isDiscard 3 (some FieldType.boolean) 2 := ⟨k_co_yX10_isDiscard, k_in_X10, by decide +kernel⟩
theorem i_X10_isDiscard : Cond.instanceMethod yX10_isDiscard ∈ lw_gd ∧ Cond.selects yX10_isDiscard.cls yX10_isDiscard yX10_isDiscard ∈ lw_gd := ⟨k_im_yX10_isDiscard, k_sel_yX10_isDiscard⟩
theorem v_X10_net : rg_vm yX10_net cX10_net 2 (some FieldType.int) 1 := ⟨k_co_yX10_net, k_in_X10, by decide +kernel⟩
theorem i_X10_net : Cond.instanceMethod yX10_net ∈ lw_gd ∧ Cond.selects yX10_net.cls yX10_net yX10_net ∈ lw_gd := ⟨k_im_yX10_net, k_sel_yX10_net⟩
theorem v_X10_reckonFor : rg_vm yX10_reckonFor cX10_reckonFor 2 (some FieldType.boolean) 1 := ⟨k_co_yX10_reckonFor, k_in_X10, by decide +kernel⟩
theorem i_X10_reckonFor : Cond.instanceMethod yX10_reckonFor ∈ lw_gd ∧ Cond.selects yX10_reckonFor.cls yX10_reckonFor yX10_reckonFor ∈ lw_gd := ⟨k_im_yX10_reckonFor, k_sel_yX10_reckonFor⟩
theorem v_X10_gross : rg_vm yX10_gross cX10_gross 2 (some FieldType.int) 1 := ⟨k_co_yX10_gross, k_in_X10, by decide +kernel⟩
theorem i_X10_gross : Cond.instanceMethod yX10_gross ∈ lw_gd ∧ Cond.selects yX10_gross.cls yX10_gross yX10_gross ∈ lw_gd := ⟨k_im_yX10_gross, k_sel_yX10_gross⟩
theorem v_X10_mean : rg_vm yX10_mean cX10_mean 3 (some FieldType.double) 1 := ⟨k_co_yX10_mean, k_in_X10, by decide +kernel⟩
theorem i_X10_mean : Cond.instanceMethod yX10_mean ∈ lw_gd ∧ Cond.selects yX10_mean.cls yX10_mean yX10_mean ∈ lw_gd := ⟨k_im_yX10_mean, k_sel_yX10_mean⟩
theorem v_X10_rank : rg_vm yX10_rank cX10_rank 2 (some FieldType.int) 1 := ⟨k_co_yX10_rank, k_in_X10, by decide +kernel⟩
theorem i_X10_rank : Cond.instanceMethod yX10_rank ∈ lw_gd ∧ Cond.selects yX10_rank.cls yX10_rank yX10_rank ∈ lw_gd := ⟨k_im_yX10_rank, k_sel_yX10_rank⟩
theorem v_X10_at : rg_vm yX10_at cX10_at 2 (some FieldType.int) 1 := ⟨k_co_yX10_at, k_in_X10, by decide +kernel⟩
theorem i_X10_at : Cond.instanceMethod yX10_at ∈ lw_gd ∧ Cond.selects yX10_at.cls yX10_at yX10_at ∈ lw_gd := ⟨k_im_yX10_at, k_sel_yX10_at⟩
theorem v_X10_boatOf : rg_vm yX10_boatOf cX10_boatOf 4 (some FieldType.int) 1 := ⟨k_co_yX10_boatOf, k_in_X10, by decide +kernel⟩
theorem i_X10_boatOf : Cond.instanceMethod yX10_boatOf ∈ lw_gd ∧ Cond.selects yX10_boatOf.cls yX10_boatOf yX10_boatOf ∈ lw_gd := ⟨k_im_yX10_boatOf, k_sel_yX10_boatOf⟩
theorem v_X10_tie : rg_vm yX10_tie cX10_tie 4 (some FieldType.int) 2 := ⟨k_co_yX10_tie, k_in_X10, by decide +kernel⟩
theorem i_X10_tie : Cond.instanceMethod yX10_tie ∈ lw_gd ∧ Cond.selects yX10_tie.cls yX10_tie yX10_tie ∈ lw_gd := ⟨k_im_yX10_tie, k_sel_yX10_tie⟩
theorem v_X10_what : rg_vm yX10_what cX10_what 5 (some FieldType.int) 4 := ⟨k_co_yX10_what, k_in_X10, by decide +kernel⟩
theorem i_X10_what : Cond.instanceMethod yX10_what ∈ lw_gd ∧ Cond.selects yX10_what.cls yX10_what yX10_what ∈ lw_gd := ⟨k_im_yX10_what, k_sel_yX10_what⟩
theorem v_X10_missing : rg_vm yX10_missing cX10_missing 7 (some FieldType.int) 2 := ⟨k_co_yX10_missing, k_in_X10, by decide +kernel⟩
theorem i_X10_missing : Cond.instanceMethod yX10_missing ∈ lw_gd ∧ Cond.selects yX10_missing.cls yX10_missing yX10_missing ∈ lw_gd := ⟨k_im_yX10_missing, k_sel_yX10_missing⟩
theorem v_X10_told : rg_vm yX10_told cX10_told 3 (some FieldType.int) 2 := ⟨k_co_yX10_told, k_in_X10, by decide +kernel⟩
theorem i_X10_told : Cond.instanceMethod yX10_told ∈ lw_gd ∧ Cond.selects yX10_told.cls yX10_told yX10_told ∈ lw_gd := ⟨k_im_yX10_told, k_sel_yX10_told⟩
theorem v_X10_sheet : rg_vm yX10_sheet cX10_sheet 2 (some FieldType.int) 0 := ⟨k_co_yX10_sheet, k_in_X10, by decide +kernel⟩
theorem i_X10_sheet : Cond.instanceMethod yX10_sheet ∈ lw_gd ∧ Cond.selects yX10_sheet.cls yX10_sheet yX10_sheet ∈ lw_gd := ⟨k_im_yX10_sheet, k_sel_yX10_sheet⟩
theorem v_X10_sayBoat : rg_vm yX10_sayBoat cX10_sayBoat 5 none 2 := ⟨k_co_yX10_sayBoat, k_in_X10, by decide +kernel⟩
theorem i_X10_sayBoat : Cond.instanceMethod yX10_sayBoat ∈ lw_gd ∧ Cond.selects yX10_sayBoat.cls yX10_sayBoat yX10_sayBoat ∈ lw_gd := ⟨k_im_yX10_sayBoat, k_sel_yX10_sayBoat⟩
theorem v_X10_sayNumber : rg_vm yX10_sayNumber cX10_sayNumber 3 none 1 := ⟨k_co_yX10_sayNumber, k_in_X10, by decide +kernel⟩
theorem i_X10_sayNumber : Cond.instanceMethod yX10_sayNumber ∈ lw_gd ∧ Cond.selects yX10_sayNumber.cls yX10_sayNumber yX10_sayNumber ∈ lw_gd := ⟨k_im_yX10_sayNumber, k_sel_yX10_sayNumber⟩
theorem v_X10_say : rg_vm yX10_say cX10_say 2 none 1 := ⟨k_co_yX10_say, k_in_X10, by decide +kernel⟩
theorem i_X10_say : Cond.instanceMethod yX10_say ∈ lw_gd ∧ Cond.selects yX10_say.cls yX10_say yX10_say ∈ lw_gd := ⟨k_im_yX10_say, k_sel_yX10_say⟩
theorem v_X10_sayTenths : rg_vm yX10_sayTenths cX10_sayTenths 2 none 1 := ⟨k_co_yX10_sayTenths, k_in_X10, by decide +kernel⟩
theorem i_X10_sayTenths : Cond.instanceMethod yX10_sayTenths ∈ lw_gd ∧ Cond.selects yX10_sayTenths.cls yX10_sayTenths yX10_sayTenths ∈ lw_gd := ⟨k_im_yX10_sayTenths, k_sel_yX10_sayTenths⟩
theorem v_X10_sayEntry : rg_vm yX10_sayEntry cX10_sayEntry 3 none 2 := ⟨k_co_yX10_sayEntry, k_in_X10, by decide +kernel⟩
theorem i_X10_sayEntry : Cond.instanceMethod yX10_sayEntry ∈ lw_gd ∧ Cond.selects yX10_sayEntry.cls yX10_sayEntry yX10_sayEntry ∈ lw_gd := ⟨k_im_yX10_sayEntry, k_sel_yX10_sayEntry⟩
theorem v_X10_sayThree : rg_vm yX10_sayThree cX10_sayThree 4 none 3 := ⟨k_co_yX10_sayThree, k_in_X10, by decide +kernel⟩
theorem i_X10_sayThree : Cond.instanceMethod yX10_sayThree ∈ lw_gd ∧ Cond.selects yX10_sayThree.cls yX10_sayThree yX10_sayThree ∈ lw_gd := ⟨k_im_yX10_sayThree, k_sel_yX10_sayThree⟩
theorem v_X10_sheetByte : rg_vm yX10_sheetByte cX10_sheetByte 2 (some FieldType.int) 1 := ⟨k_co_yX10_sheetByte, k_in_X10, by decide +kernel⟩
theorem i_X10_sheetByte : Cond.instanceMethod yX10_sheetByte ∈ lw_gd ∧ Cond.selects yX10_sheetByte.cls yX10_sheetByte yX10_sheetByte ∈ lw_gd := ⟨k_im_yX10_sheetByte, k_sel_yX10_sheetByte⟩
