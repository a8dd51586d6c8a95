/-- the places of the class's world: 0 the desk, 1 the deck (2 suitOf, 3 rankOf, 4 targets), 5 the stand (6 columns, 7 sizes, 8 cells, 9 houses, 10 order), 11 the history (12 forms, 13 arrangements), 14 the trays (15 .. 26), 27 formRow, 28 the search (29 forms, 30 told, 31 chains, 32 its stand, 33 .. 37), 38 the plan (39) -/
def SHx : List pm_S := [.inr (.inr (6, [some 1, some 5, some 11, some 14, some 27, some 28, some 38, none, none, none])), .inr (.inr (0, [some 2, some 3, some 4, none, none, none, none, none])), .inl (0, 16), .inl (0, 16), .inl (0, 16), .inr (.inr (4, [some 1, some 6, some 7, some 8, some 9, some 10, none])), .inl (4, 4), .inl (0, 4), .inl (0, 2), .inl (0, 4), .inl (4, 4), .inr (.inr (1, [some 12, some 13, none, none])), .inl (4, 65), .inl (0, 65), .inr (.inl [15, 17, 19, 21, 23, 25]), .inr (.inr (5, [some 16, none, none, none])), .inl (3, 32), .inr (.inr (5, [some 18, none, none, none])), .inl (3, 32), .inr (.inr (5, [some 20, none, none, none])), .inl (3, 32), .inr (.inr (5, [some 22, none, none, none])), .inl (3, 32), .inr (.inr (5, [some 24, none, none, none])), .inl (3, 32), .inr (.inr (5, [some 26, none, none, none])), .inl (3, 32), .inl (3, 18), .inr (.inr (3, [some 32, some 29, some 30, some 31, none, none, none, none, none])), .inl (4, 4000), .inl (4, 4000), .inl (3, 1024), .inr (.inr (4, [some 1, some 33, some 34, some 35, some 36, some 37, none])), .inl (4, 4), .inl (0, 4), .inl (0, 2), .inl (0, 4), .inl (4, 4), .inr (.inr (2, [some 39, none])), .inl (4, 500)]
/-- the places of the reference's world: 0 itself, 1 isLaid, 2 len, 3 col, 4 cell, 5 house, 6 hLen, 7 hCol, 8 hCell, 9 hHouse, 10 tLen, 11 tCol, 12 tCell, 13 tHouse, 14 f, 15 level, 16 good, 17 slot, 18 key, 19 order, 20 planFrom, 21 planTo, 22 tray, 23 trayN, 24 trayCell, 25 told, 26 rLen, 27 rCol, 28 rCell, 29 rHouse -/
def SHy : List pm_S := [.inr (.inr (7, [none, none, none, none, none, none, some 1, none, some 2, some 3, some 4, some 5, none, none, some 6, some 7, some 8, some 9, some 10, some 11, some 12, some 13, none, none, some 14, some 15, some 16, some 17, some 18, some 19, none, some 20, some 21, some 22, some 23, some 24, some 25, none, some 26, some 27, some 28, some 29])), .inl (2, 32), .inl (0, 4), .inl (0, 48), .inl (0, 2), .inl (0, 4), .inl (0, 520), .inl (0, 6240), .inl (0, 260), .inl (0, 520), .inl (0, 4), .inl (0, 48), .inl (0, 2), .inl (0, 4), .inl (1, 72036), .inl (3, 4002), .inl (2, 4002), .inl (0, 16384), .inl (1, 18), .inl (0, 4), .inl (0, 4100), .inl (0, 4100), .inl (0, 6), .inl (0, 6), .inl (0, 192), .inl (0, 20), .inl (0, 4), .inl (0, 48), .inl (0, 2), .inl (0, 4)]
theorem sx_0 : SHx[0]? = some (.inr (.inr (6, [some 1, some 5, some 11, some 14, some 27, some 28, some 38, none, none, none]))) := rfl
theorem sx_1 : SHx[1]? = some (.inr (.inr (0, [some 2, some 3, some 4, none, none, none, none, none]))) := rfl
theorem sx_2 : SHx[2]? = some (.inl (0, 16)) := rfl
theorem sx_3 : SHx[3]? = some (.inl (0, 16)) := rfl
theorem sx_4 : SHx[4]? = some (.inl (0, 16)) := rfl
theorem sx_5 : SHx[5]? = some (.inr (.inr (4, [some 1, some 6, some 7, some 8, some 9, some 10, none]))) := rfl
theorem sx_6 : SHx[6]? = some (.inl (4, 4)) := rfl
theorem sx_7 : SHx[7]? = some (.inl (0, 4)) := rfl
theorem sx_8 : SHx[8]? = some (.inl (0, 2)) := rfl
theorem sx_9 : SHx[9]? = some (.inl (0, 4)) := rfl
theorem sx_10 : SHx[10]? = some (.inl (4, 4)) := rfl
theorem sx_11 : SHx[11]? = some (.inr (.inr (1, [some 12, some 13, none, none]))) := rfl
theorem sx_12 : SHx[12]? = some (.inl (4, 65)) := rfl
theorem sx_13 : SHx[13]? = some (.inl (0, 65)) := rfl
theorem sx_14 : SHx[14]? = some (.inr (.inl [15, 17, 19, 21, 23, 25])) := rfl
theorem sx_15 : SHx[15]? = some (.inr (.inr (5, [some 16, none, none, none]))) := rfl
theorem sx_16 : SHx[16]? = some (.inl (3, 32)) := rfl
theorem sx_17 : SHx[17]? = some (.inr (.inr (5, [some 18, none, none, none]))) := rfl
theorem sx_18 : SHx[18]? = some (.inl (3, 32)) := rfl
theorem sx_19 : SHx[19]? = some (.inr (.inr (5, [some 20, none, none, none]))) := rfl
theorem sx_20 : SHx[20]? = some (.inl (3, 32)) := rfl
theorem sx_21 : SHx[21]? = some (.inr (.inr (5, [some 22, none, none, none]))) := rfl
theorem sx_22 : SHx[22]? = some (.inl (3, 32)) := rfl
theorem sx_23 : SHx[23]? = some (.inr (.inr (5, [some 24, none, none, none]))) := rfl
theorem sx_24 : SHx[24]? = some (.inl (3, 32)) := rfl
theorem sx_25 : SHx[25]? = some (.inr (.inr (5, [some 26, none, none, none]))) := rfl
theorem sx_26 : SHx[26]? = some (.inl (3, 32)) := rfl
theorem sx_27 : SHx[27]? = some (.inl (3, 18)) := rfl
theorem sx_28 : SHx[28]? = some (.inr (.inr (3, [some 32, some 29, some 30, some 31, none, none, none, none, none]))) := rfl
theorem sx_29 : SHx[29]? = some (.inl (4, 4000)) := rfl
theorem sx_30 : SHx[30]? = some (.inl (4, 4000)) := rfl
theorem sx_31 : SHx[31]? = some (.inl (3, 1024)) := rfl
theorem sx_32 : SHx[32]? = some (.inr (.inr (4, [some 1, some 33, some 34, some 35, some 36, some 37, none]))) := rfl
theorem sx_33 : SHx[33]? = some (.inl (4, 4)) := rfl
theorem sx_34 : SHx[34]? = some (.inl (0, 4)) := rfl
theorem sx_35 : SHx[35]? = some (.inl (0, 2)) := rfl
theorem sx_36 : SHx[36]? = some (.inl (0, 4)) := rfl
theorem sx_37 : SHx[37]? = some (.inl (4, 4)) := rfl
theorem sx_38 : SHx[38]? = some (.inr (.inr (2, [some 39, none]))) := rfl
theorem sx_39 : SHx[39]? = some (.inl (4, 500)) := rfl
theorem sy_0 : SHy[0]? = some (.inr (.inr (7, [none, none, none, none, none, none, some 1, none, some 2, some 3, some 4, some 5, none, none, some 6, some 7, some 8, some 9, some 10, some 11, some 12, some 13, none, none, some 14, some 15, some 16, some 17, some 18, some 19, none, some 20, some 21, some 22, some 23, some 24, some 25, none, some 26, some 27, some 28, some 29]))) := rfl
theorem sy_1 : SHy[1]? = some (.inl (2, 32)) := rfl
theorem sy_2 : SHy[2]? = some (.inl (0, 4)) := rfl
theorem sy_3 : SHy[3]? = some (.inl (0, 48)) := rfl
theorem sy_4 : SHy[4]? = some (.inl (0, 2)) := rfl
theorem sy_5 : SHy[5]? = some (.inl (0, 4)) := rfl
theorem sy_6 : SHy[6]? = some (.inl (0, 520)) := rfl
theorem sy_7 : SHy[7]? = some (.inl (0, 6240)) := rfl
theorem sy_8 : SHy[8]? = some (.inl (0, 260)) := rfl
theorem sy_9 : SHy[9]? = some (.inl (0, 520)) := rfl
theorem sy_10 : SHy[10]? = some (.inl (0, 4)) := rfl
theorem sy_11 : SHy[11]? = some (.inl (0, 48)) := rfl
theorem sy_12 : SHy[12]? = some (.inl (0, 2)) := rfl
theorem sy_13 : SHy[13]? = some (.inl (0, 4)) := rfl
theorem sy_14 : SHy[14]? = some (.inl (1, 72036)) := rfl
theorem sy_15 : SHy[15]? = some (.inl (3, 4002)) := rfl
theorem sy_16 : SHy[16]? = some (.inl (2, 4002)) := rfl
theorem sy_17 : SHy[17]? = some (.inl (0, 16384)) := rfl
theorem sy_18 : SHy[18]? = some (.inl (1, 18)) := rfl
theorem sy_19 : SHy[19]? = some (.inl (0, 4)) := rfl
theorem sy_20 : SHy[20]? = some (.inl (0, 4100)) := rfl
theorem sy_21 : SHy[21]? = some (.inl (0, 4100)) := rfl
theorem sy_22 : SHy[22]? = some (.inl (0, 6)) := rfl
theorem sy_23 : SHy[23]? = some (.inl (0, 6)) := rfl
theorem sy_24 : SHy[24]? = some (.inl (0, 192)) := rfl
theorem sy_25 : SHy[25]? = some (.inl (0, 20)) := rfl
theorem sy_26 : SHy[26]? = some (.inl (0, 4)) := rfl
theorem sy_27 : SHy[27]? = some (.inl (0, 48)) := rfl
theorem sy_28 : SHy[28]? = some (.inl (0, 2)) := rfl
theorem sy_29 : SHy[29]? = some (.inl (0, 4)) := rfl
