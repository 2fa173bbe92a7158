def LAY : List PD := [(0, 10, [3, 5, 8, 11, 14, 23, 26, 31, 35]), (0, 3, [0, 0, 0, 0, 4]), (1, 16, []), (0, 6, [0, 6, 7]), (1, 40, []), (2, 40, []), (0, 9, [0, 0, 9, 10]), (1, 56, []), (1, 8, []), (0, 7, [0, 12, 13]), (1, 120, []), (1, 5, []), (0, 0, [8, 17, 0, 15, 3, 16]), (1, 8, []), (1, 7, []), (0, 8, [0, 0, 18, 19, 0, 3, 20, 21, 22]), (1, 7, []), (1, 64, []), (1, 56, []), (1, 8, []), (1, 8, []), (0, 5, [0, 0, 0, 0, 0, 0, 24, 25, 14]), (1, 64, []), (1, 64, []), (0, 4, [0, 27, 14, 28, 29, 30, 0]), (1, 9, []), (1, 256, []), (1, 256, []), (1, 8, []), (0, 1, [0, 0, 0, 32, 3, 8, 33, 34]), (1, 8, []), (1, 8, []), (1, 576, []), (0, 2, [36, 37, 3, 11, 39, 38]), (1, 7, []), (1, 7, []), (1, 6, []), (0, 8, [0, 0, 40, 41, 0, 3, 42, 43, 44]), (1, 6, []), (1, 840, []), (1, 720, []), (1, 7, []), (1, 7, []), (0, 11, [0, 0, 46, 0, 0, 0, 0, 0, 47, 48, 0, 49, 50, 0, 0, 0, 51, 0, 52, 0, 53, 54, 55, 56, 57, 0, 58, 59, 60, 0, 0, 61, 0, 0]), (1, 16, []), (2, 56, []), (1, 8, []), (2, 120, []), (1, 5, []), (2, 40, []), (2, 40, []), (1, 8, []), (2, 131072, []), (2, 8, []), (3, 256, []), (1, 256, []), (1, 81, []), (1, 648, []), (2, 8, []), (2, 8, []), (4, 1, [])]
theorem lay_0 : LAY[0]? = some (0, 10, [3, 5, 8, 11, 14, 23, 26, 31, 35]) := rfl
theorem lay_1 : LAY[1]? = some (0, 3, [0, 0, 0, 0, 4]) := rfl
theorem lay_2 : LAY[2]? = some (1, 16, []) := rfl
theorem lay_3 : LAY[3]? = some (0, 6, [0, 6, 7]) := rfl
theorem lay_4 : LAY[4]? = some (1, 40, []) := rfl
theorem lay_5 : LAY[5]? = some (2, 40, []) := rfl
theorem lay_6 : LAY[6]? = some (0, 9, [0, 0, 9, 10]) := rfl
theorem lay_7 : LAY[7]? = some (1, 56, []) := rfl
theorem lay_8 : LAY[8]? = some (1, 8, []) := rfl
theorem lay_9 : LAY[9]? = some (0, 7, [0, 12, 13]) := rfl
theorem lay_10 : LAY[10]? = some (1, 120, []) := rfl
theorem lay_11 : LAY[11]? = some (1, 5, []) := rfl
theorem lay_12 : LAY[12]? = some (0, 0, [8, 17, 0, 15, 3, 16]) := rfl
theorem lay_13 : LAY[13]? = some (1, 8, []) := rfl
theorem lay_14 : LAY[14]? = some (1, 7, []) := rfl
theorem lay_15 : LAY[15]? = some (0, 8, [0, 0, 18, 19, 0, 3, 20, 21, 22]) := rfl
theorem lay_16 : LAY[16]? = some (1, 7, []) := rfl
theorem lay_17 : LAY[17]? = some (1, 64, []) := rfl
theorem lay_18 : LAY[18]? = some (1, 56, []) := rfl
theorem lay_19 : LAY[19]? = some (1, 8, []) := rfl
theorem lay_20 : LAY[20]? = some (1, 8, []) := rfl
theorem lay_21 : LAY[21]? = some (0, 5, [0, 0, 0, 0, 0, 0, 24, 25, 14]) := rfl
theorem lay_22 : LAY[22]? = some (1, 64, []) := rfl
theorem lay_23 : LAY[23]? = some (1, 64, []) := rfl
theorem lay_24 : LAY[24]? = some (0, 4, [0, 27, 14, 28, 29, 30, 0]) := rfl
theorem lay_25 : LAY[25]? = some (1, 9, []) := rfl
theorem lay_26 : LAY[26]? = some (1, 256, []) := rfl
theorem lay_27 : LAY[27]? = some (1, 256, []) := rfl
theorem lay_28 : LAY[28]? = some (1, 8, []) := rfl
theorem lay_29 : LAY[29]? = some (0, 1, [0, 0, 0, 32, 3, 8, 33, 34]) := rfl
theorem lay_30 : LAY[30]? = some (1, 8, []) := rfl
theorem lay_31 : LAY[31]? = some (1, 8, []) := rfl
theorem lay_32 : LAY[32]? = some (1, 576, []) := rfl
theorem lay_33 : LAY[33]? = some (0, 2, [36, 37, 3, 11, 39, 38]) := rfl
theorem lay_34 : LAY[34]? = some (1, 7, []) := rfl
theorem lay_35 : LAY[35]? = some (1, 7, []) := rfl
theorem lay_36 : LAY[36]? = some (1, 6, []) := rfl
theorem lay_37 : LAY[37]? = some (0, 8, [0, 0, 40, 41, 0, 3, 42, 43, 44]) := rfl
theorem lay_38 : LAY[38]? = some (1, 6, []) := rfl
theorem lay_39 : LAY[39]? = some (1, 840, []) := rfl
theorem lay_40 : LAY[40]? = some (1, 720, []) := rfl
theorem lay_41 : LAY[41]? = some (1, 7, []) := rfl
theorem lay_42 : LAY[42]? = some (1, 7, []) := rfl
theorem lay_43 : LAY[43]? = some (0, 11, [0, 0, 46, 0, 0, 0, 0, 0, 47, 48, 0, 49, 50, 0, 0, 0, 51, 0, 52, 0, 53, 54, 55, 56, 57, 0, 58, 59, 60, 0, 0, 61, 0, 0]) := rfl
theorem lay_44 : LAY[44]? = some (1, 16, []) := rfl
theorem lay_45 : LAY[45]? = some (2, 56, []) := rfl
theorem lay_46 : LAY[46]? = some (1, 8, []) := rfl
theorem lay_47 : LAY[47]? = some (2, 120, []) := rfl
theorem lay_48 : LAY[48]? = some (1, 5, []) := rfl
theorem lay_49 : LAY[49]? = some (2, 40, []) := rfl
theorem lay_50 : LAY[50]? = some (2, 40, []) := rfl
theorem lay_51 : LAY[51]? = some (1, 8, []) := rfl
theorem lay_52 : LAY[52]? = some (2, 131072, []) := rfl
theorem lay_53 : LAY[53]? = some (2, 8, []) := rfl
theorem lay_54 : LAY[54]? = some (3, 256, []) := rfl
theorem lay_55 : LAY[55]? = some (1, 256, []) := rfl
theorem lay_56 : LAY[56]? = some (1, 81, []) := rfl
theorem lay_57 : LAY[57]? = some (1, 648, []) := rfl
theorem lay_58 : LAY[58]? = some (2, 8, []) := rfl
theorem lay_59 : LAY[59]? = some (2, 8, []) := rfl
theorem lay_60 : LAY[60]? = some (4, 1, []) := rfl
theorem kc_0 : vwCl[0]? = some (RX0, TX0, 6) := rfl
theorem kc_1 : vwCl[1]? = some (RX1, TX1, 8) := rfl
theorem kc_2 : vwCl[2]? = some (RX2, TX2, 6) := rfl
theorem kc_3 : vwCl[3]? = some (RX3, TX3, 5) := rfl
theorem kc_4 : vwCl[4]? = some (RX4, TX4, 7) := rfl
theorem kc_5 : vwCl[5]? = some (RX5, TX5, 9) := rfl
theorem kc_6 : vwCl[6]? = some (RX6, TX6, 3) := rfl
theorem kc_7 : vwCl[7]? = some (RX7, TX7, 3) := rfl
theorem kc_8 : vwCl[8]? = some (RX8, TX8, 9) := rfl
theorem kc_9 : vwCl[9]? = some (RX9, TX9, 4) := rfl
theorem kc_10 : vwCl[10]? = some (RX10, TX10, 9) := rfl
theorem kc_11 : vwCl[11]? = some (RX11, TX11, 34) := rfl
/-- nw.rules -/
theorem g_0_0 {X : CX} {K : KX} {cc : ByteArray} {own : String} {nL : Nat} {ret : Option FieldType} {d : Nat} {cs : Nat × Nat} {Z : State → Prop} {pc : Nat} {st : List Value} {M : Mem} (C : CXok X K LAY cc own nL ret d) {L : List (Option Value)} {idx : Nat} (hl : Cond.fieldLink own idx "NearWords" "rules" "LNearWords$Rules;" ∈ wsL_law0) (hd : decode cc pc = .ok (.getfield idx, 3)) (kk : PW X K LAY nL cs Z (pc + 3) L (rV K 1 :: st) M) : PW X K LAY nL cs Z pc L (rV K 0 :: st) M :=
  pw_get0 C lay_0 kc_10 gT_wsX100 0 (by decide) rfl hl hd kk
/-- nw.tape -/
theorem g_0_1 {X : CX} {K : KX} {cc : ByteArray} {own : String} {nL : Nat} {ret : Option FieldType} {d : Nat} {cs : Nat × Nat} {Z : State → Prop} {pc : Nat} {st : List Value} {M : Mem} (C : CXok X K LAY cc own nL ret d) {L : List (Option Value)} {idx : Nat} (hl : Cond.fieldLink own idx "NearWords" "tape" "LNearWords$Tape;" ∈ wsL_law0) (hd : decode cc pc = .ok (.getfield idx, 3)) (kk : PW X K LAY nL cs Z (pc + 3) L (rV K 3 :: st) M) : PW X K LAY nL cs Z pc L (rV K 0 :: st) M :=
  pw_get0 C lay_0 kc_10 gT_wsX100 1 (by decide) rfl hl hd kk
/-- nw.words -/
theorem g_0_2 {X : CX} {K : KX} {cc : ByteArray} {own : String} {nL : Nat} {ret : Option FieldType} {d : Nat} {cs : Nat × Nat} {Z : State → Prop} {pc : Nat} {st : List Value} {M : Mem} (C : CXok X K LAY cc own nL ret d) {L : List (Option Value)} {idx : Nat} (hl : Cond.fieldLink own idx "NearWords" "words" "LNearWords$Words;" ∈ wsL_law0) (hd : decode cc pc = .ok (.getfield idx, 3)) (kk : PW X K LAY nL cs Z (pc + 3) L (rV K 6 :: st) M) : PW X K LAY nL cs Z pc L (rV K 0 :: st) M :=
  pw_get0 C lay_0 kc_10 gT_wsX100 2 (by decide) rfl hl hd kk
/-- nw.texts -/
theorem g_0_3 {X : CX} {K : KX} {cc : ByteArray} {own : String} {nL : Nat} {ret : Option FieldType} {d : Nat} {cs : Nat × Nat} {Z : State → Prop} {pc : Nat} {st : List Value} {M : Mem} (C : CXok X K LAY cc own nL ret d) {L : List (Option Value)} {idx : Nat} (hl : Cond.fieldLink own idx "NearWords" "texts" "LNearWords$Texts;" ∈ wsL_law0) (hd : decode cc pc = .ok (.getfield idx, 3)) (kk : PW X K LAY nL cs Z (pc + 3) L (rV K 9 :: st) M) : PW X K LAY nL cs Z pc L (rV K 0 :: st) M :=
  pw_get0 C lay_0 kc_10 gT_wsX100 3 (by decide) rfl hl hd kk
/-- nw.candidates -/
theorem g_0_4 {X : CX} {K : KX} {cc : ByteArray} {own : String} {nL : Nat} {ret : Option FieldType} {d : Nat} {cs : Nat × Nat} {Z : State → Prop} {pc : Nat} {st : List Value} {M : Mem} (C : CXok X K LAY cc own nL ret d) {L : List (Option Value)} {idx : Nat} (hl : Cond.fieldLink own idx "NearWords" "candidates" "LNearWords$Candidates;" ∈ wsL_law0) (hd : decode cc pc = .ok (.getfield idx, 3)) (kk : PW X K LAY nL cs Z (pc + 3) L (rV K 12 :: st) M) : PW X K LAY nL cs Z pc L (rV K 0 :: st) M :=
  pw_get0 C lay_0 kc_10 gT_wsX100 4 (by decide) rfl hl hd kk
/-- nw.survey -/
theorem g_0_5 {X : CX} {K : KX} {cc : ByteArray} {own : String} {nL : Nat} {ret : Option FieldType} {d : Nat} {cs : Nat × Nat} {Z : State → Prop} {pc : Nat} {st : List Value} {M : Mem} (C : CXok X K LAY cc own nL ret d) {L : List (Option Value)} {idx : Nat} (hl : Cond.fieldLink own idx "NearWords" "survey" "LNearWords$Survey;" ∈ wsL_law0) (hd : decode cc pc = .ok (.getfield idx, 3)) (kk : PW X K LAY nL cs Z (pc + 3) L (rV K 21 :: st) M) : PW X K LAY nL cs Z pc L (rV K 0 :: st) M :=
  pw_get0 C lay_0 kc_10 gT_wsX100 5 (by decide) rfl hl hd kk
/-- nw.sets -/
theorem g_0_6 {X : CX} {K : KX} {cc : ByteArray} {own : String} {nL : Nat} {ret : Option FieldType} {d : Nat} {cs : Nat × Nat} {Z : State → Prop} {pc : Nat} {st : List Value} {M : Mem} (C : CXok X K LAY cc own nL ret d) {L : List (Option Value)} {idx : Nat} (hl : Cond.fieldLink own idx "NearWords" "sets" "LNearWords$Sets;" ∈ wsL_law0) (hd : decode cc pc = .ok (.getfield idx, 3)) (kk : PW X K LAY nL cs Z (pc + 3) L (rV K 24 :: st) M) : PW X K LAY nL cs Z pc L (rV K 0 :: st) M :=
  pw_get0 C lay_0 kc_10 gT_wsX100 6 (by decide) rfl hl hd kk
/-- nw.middles -/
theorem g_0_7 {X : CX} {K : KX} {cc : ByteArray} {own : String} {nL : Nat} {ret : Option FieldType} {d : Nat} {cs : Nat × Nat} {Z : State → Prop} {pc : Nat} {st : List Value} {M : Mem} (C : CXok X K LAY cc own nL ret d) {L : List (Option Value)} {idx : Nat} (hl : Cond.fieldLink own idx "NearWords" "middles" "LNearWords$Middle;" ∈ wsL_law0) (hd : decode cc pc = .ok (.getfield idx, 3)) (kk : PW X K LAY nL cs Z (pc + 3) L (rV K 29 :: st) M) : PW X K LAY nL cs Z pc L (rV K 0 :: st) M :=
  pw_get0 C lay_0 kc_10 gT_wsX100 7 (by decide) rfl hl hd kk
/-- nw.motifs -/
theorem g_0_8 {X : CX} {K : KX} {cc : ByteArray} {own : String} {nL : Nat} {ret : Option FieldType} {d : Nat} {cs : Nat × Nat} {Z : State → Prop} {pc : Nat} {st : List Value} {M : Mem} (C : CXok X K LAY cc own nL ret d) {L : List (Option Value)} {idx : Nat} (hl : Cond.fieldLink own idx "NearWords" "motifs" "LNearWords$Motif;" ∈ wsL_law0) (hd : decode cc pc = .ok (.getfield idx, 3)) (kk : PW X K LAY nL cs Z (pc + 3) L (rV K 33 :: st) M) : PW X K LAY nL cs Z pc L (rV K 0 :: st) M :=
  pw_get0 C lay_0 kc_10 gT_wsX100 8 (by decide) rfl hl hd kk
/-- rules.letters -/
theorem g_1_0 {X : CX} {K : KX} {cc : ByteArray} {own : String} {nL : Nat} {ret : Option FieldType} {d : Nat} {cs : Nat × Nat} {Z : State → Prop} {pc : Nat} {st : List Value} {M : Mem} (C : CXok X K LAY cc own nL ret d) {L : List (Option Value)} {idx : Nat} (hl : Cond.fieldLink own idx "NearWords$Rules" "letters" "I" ∈ wsL_law0) (hd : decode cc pc = .ok (.getfield idx, 3)) (kk : PW X K LAY nL cs Z (pc + 3) L (iV (M 1 0) :: st) M) : PW X K LAY nL cs Z pc L (rV K 1 :: st) M :=
  pw_get0 C lay_1 kc_3 gT_wsX30 0 (by decide) rfl hl hd kk
theorem p_1_0 {X : CX} {K : KX} {cc : ByteArray} {own : String} {nL : Nat} {ret : Option FieldType} {d : Nat} {cs : Nat × Nat} {Z : State → Prop} {pc : Nat} {st : List Value} {M : Mem} (C : CXok X K LAY cc own nL ret d) {L : List (Option Value)} {idx : Nat} {z : Int} (hl : Cond.fieldLink own idx "NearWords$Rules" "letters" "I" ∈ wsL_law0) (hd : decode cc pc = .ok (.putfield idx, 3)) (kk : PW X K LAY nL cs Z (pc + 3) L st (up2 M 1 0 z)) : PW X K LAY nL cs Z pc L (iV z :: rV K 1 :: st) M :=
  pw_put0 C lay_1 kc_3 gT_wsX30 tyX3 tyX3_ok nmX3 0 (by decide) rfl rfl rfl rfl hl hd kk
/-- rules.swap -/
theorem g_1_1 {X : CX} {K : KX} {cc : ByteArray} {own : String} {nL : Nat} {ret : Option FieldType} {d : Nat} {cs : Nat × Nat} {Z : State → Prop} {pc : Nat} {st : List Value} {M : Mem} (C : CXok X K LAY cc own nL ret d) {L : List (Option Value)} {idx : Nat} (hl : Cond.fieldLink own idx "NearWords$Rules" "swap" "I" ∈ wsL_law0) (hd : decode cc pc = .ok (.getfield idx, 3)) (kk : PW X K LAY nL cs Z (pc + 3) L (iV (M 1 1) :: st) M) : PW X K LAY nL cs Z pc L (rV K 1 :: st) M :=
  pw_get0 C lay_1 kc_3 gT_wsX30 1 (by decide) rfl hl hd kk
theorem p_1_1 {X : CX} {K : KX} {cc : ByteArray} {own : String} {nL : Nat} {ret : Option FieldType} {d : Nat} {cs : Nat × Nat} {Z : State → Prop} {pc : Nat} {st : List Value} {M : Mem} (C : CXok X K LAY cc own nL ret d) {L : List (Option Value)} {idx : Nat} {z : Int} (hl : Cond.fieldLink own idx "NearWords$Rules" "swap" "I" ∈ wsL_law0) (hd : decode cc pc = .ok (.putfield idx, 3)) (kk : PW X K LAY nL cs Z (pc + 3) L st (up2 M 1 1 z)) : PW X K LAY nL cs Z pc L (iV z :: rV K 1 :: st) M :=
  pw_put0 C lay_1 kc_3 gT_wsX30 tyX3 tyX3_ok nmX3 1 (by decide) rfl rfl rfl rfl hl hd kk
/-- rules.drop -/
theorem g_1_2 {X : CX} {K : KX} {cc : ByteArray} {own : String} {nL : Nat} {ret : Option FieldType} {d : Nat} {cs : Nat × Nat} {Z : State → Prop} {pc : Nat} {st : List Value} {M : Mem} (C : CXok X K LAY cc own nL ret d) {L : List (Option Value)} {idx : Nat} (hl : Cond.fieldLink own idx "NearWords$Rules" "drop" "I" ∈ wsL_law0) (hd : decode cc pc = .ok (.getfield idx, 3)) (kk : PW X K LAY nL cs Z (pc + 3) L (iV (M 1 2) :: st) M) : PW X K LAY nL cs Z pc L (rV K 1 :: st) M :=
  pw_get0 C lay_1 kc_3 gT_wsX30 2 (by decide) rfl hl hd kk
theorem p_1_2 {X : CX} {K : KX} {cc : ByteArray} {own : String} {nL : Nat} {ret : Option FieldType} {d : Nat} {cs : Nat × Nat} {Z : State → Prop} {pc : Nat} {st : List Value} {M : Mem} (C : CXok X K LAY cc own nL ret d) {L : List (Option Value)} {idx : Nat} {z : Int} (hl : Cond.fieldLink own idx "NearWords$Rules" "drop" "I" ∈ wsL_law0) (hd : decode cc pc = .ok (.putfield idx, 3)) (kk : PW X K LAY nL cs Z (pc + 3) L st (up2 M 1 2 z)) : PW X K LAY nL cs Z pc L (iV z :: rV K 1 :: st) M :=
  pw_put0 C lay_1 kc_3 gT_wsX30 tyX3 tyX3_ok nmX3 2 (by decide) rfl rfl rfl rfl hl hd kk
/-- rules.gap -/
theorem g_1_3 {X : CX} {K : KX} {cc : ByteArray} {own : String} {nL : Nat} {ret : Option FieldType} {d : Nat} {cs : Nat × Nat} {Z : State → Prop} {pc : Nat} {st : List Value} {M : Mem} (C : CXok X K LAY cc own nL ret d) {L : List (Option Value)} {idx : Nat} (hl : Cond.fieldLink own idx "NearWords$Rules" "gap" "I" ∈ wsL_law0) (hd : decode cc pc = .ok (.getfield idx, 3)) (kk : PW X K LAY nL cs Z (pc + 3) L (iV (M 1 3) :: st) M) : PW X K LAY nL cs Z pc L (rV K 1 :: st) M :=
  pw_get0 C lay_1 kc_3 gT_wsX30 3 (by decide) rfl hl hd kk
theorem p_1_3 {X : CX} {K : KX} {cc : ByteArray} {own : String} {nL : Nat} {ret : Option FieldType} {d : Nat} {cs : Nat × Nat} {Z : State → Prop} {pc : Nat} {st : List Value} {M : Mem} (C : CXok X K LAY cc own nL ret d) {L : List (Option Value)} {idx : Nat} {z : Int} (hl : Cond.fieldLink own idx "NearWords$Rules" "gap" "I" ∈ wsL_law0) (hd : decode cc pc = .ok (.putfield idx, 3)) (kk : PW X K LAY nL cs Z (pc + 3) L st (up2 M 1 3 z)) : PW X K LAY nL cs Z pc L (iV z :: rV K 1 :: st) M :=
  pw_put0 C lay_1 kc_3 gT_wsX30 tyX3 tyX3_ok nmX3 3 (by decide) rfl rfl rfl rfl hl hd kk
/-- rules.prices -/
theorem g_1_4 {X : CX} {K : KX} {cc : ByteArray} {own : String} {nL : Nat} {ret : Option FieldType} {d : Nat} {cs : Nat × Nat} {Z : State → Prop} {pc : Nat} {st : List Value} {M : Mem} (C : CXok X K LAY cc own nL ret d) {L : List (Option Value)} {idx : Nat} (hl : Cond.fieldLink own idx "NearWords$Rules" "prices" "[I" ∈ wsL_law0) (hd : decode cc pc = .ok (.getfield idx, 3)) (kk : PW X K LAY nL cs Z (pc + 3) L (rV K 2 :: st) M) : PW X K LAY nL cs Z pc L (rV K 1 :: st) M :=
  pw_get0 C lay_1 kc_3 gT_wsX30 4 (by decide) rfl hl hd kk
/-- tape.size -/
theorem g_3_0 {X : CX} {K : KX} {cc : ByteArray} {own : String} {nL : Nat} {ret : Option FieldType} {d : Nat} {cs : Nat × Nat} {Z : State → Prop} {pc : Nat} {st : List Value} {M : Mem} (C : CXok X K LAY cc own nL ret d) {L : List (Option Value)} {idx : Nat} (hl : Cond.fieldLink own idx "NearWords$Tape" "size" "I" ∈ wsL_law0) (hd : decode cc pc = .ok (.getfield idx, 3)) (kk : PW X K LAY nL cs Z (pc + 3) L (iV (M 3 0) :: st) M) : PW X K LAY nL cs Z pc L (rV K 3 :: st) M :=
  pw_get0 C lay_3 kc_6 gT_wsX60 0 (by decide) rfl hl hd kk
theorem p_3_0 {X : CX} {K : KX} {cc : ByteArray} {own : String} {nL : Nat} {ret : Option FieldType} {d : Nat} {cs : Nat × Nat} {Z : State → Prop} {pc : Nat} {st : List Value} {M : Mem} (C : CXok X K LAY cc own nL ret d) {L : List (Option Value)} {idx : Nat} {z : Int} (hl : Cond.fieldLink own idx "NearWords$Tape" "size" "I" ∈ wsL_law0) (hd : decode cc pc = .ok (.putfield idx, 3)) (kk : PW X K LAY nL cs Z (pc + 3) L st (up2 M 3 0 z)) : PW X K LAY nL cs Z pc L (iV z :: rV K 3 :: st) M :=
  pw_put0 C lay_3 kc_6 gT_wsX60 tyX6 tyX6_ok nmX6 0 (by decide) rfl rfl rfl rfl hl hd kk
/-- tape.row -/
theorem g_3_1 {X : CX} {K : KX} {cc : ByteArray} {own : String} {nL : Nat} {ret : Option FieldType} {d : Nat} {cs : Nat × Nat} {Z : State → Prop} {pc : Nat} {st : List Value} {M : Mem} (C : CXok X K LAY cc own nL ret d) {L : List (Option Value)} {idx : Nat} (hl : Cond.fieldLink own idx "NearWords$Tape" "row" "[I" ∈ wsL_law0) (hd : decode cc pc = .ok (.getfield idx, 3)) (kk : PW X K LAY nL cs Z (pc + 3) L (rV K 4 :: st) M) : PW X K LAY nL cs Z pc L (rV K 3 :: st) M :=
  pw_get0 C lay_3 kc_6 gT_wsX60 1 (by decide) rfl hl hd kk
/-- tape.bytes -/
theorem g_3_2 {X : CX} {K : KX} {cc : ByteArray} {own : String} {nL : Nat} {ret : Option FieldType} {d : Nat} {cs : Nat × Nat} {Z : State → Prop} {pc : Nat} {st : List Value} {M : Mem} (C : CXok X K LAY cc own nL ret d) {L : List (Option Value)} {idx : Nat} (hl : Cond.fieldLink own idx "NearWords$Tape" "bytes" "[B" ∈ wsL_law0) (hd : decode cc pc = .ok (.getfield idx, 3)) (kk : PW X K LAY nL cs Z (pc + 3) L (rV K 5 :: st) M) : PW X K LAY nL cs Z pc L (rV K 3 :: st) M :=
  pw_get0 C lay_3 kc_6 gT_wsX60 2 (by decide) rfl hl hd kk
/-- words.size -/
theorem g_6_0 {X : CX} {K : KX} {cc : ByteArray} {own : String} {nL : Nat} {ret : Option FieldType} {d : Nat} {cs : Nat × Nat} {Z : State → Prop} {pc : Nat} {st : List Value} {M : Mem} (C : CXok X K LAY cc own nL ret d) {L : List (Option Value)} {idx : Nat} (hl : Cond.fieldLink own idx "NearWords$Words" "size" "I" ∈ wsL_law0) (hd : decode cc pc = .ok (.getfield idx, 3)) (kk : PW X K LAY nL cs Z (pc + 3) L (iV (M 6 0) :: st) M) : PW X K LAY nL cs Z pc L (rV K 6 :: st) M :=
  pw_get0 C lay_6 kc_9 gT_wsX90 0 (by decide) rfl hl hd kk
theorem p_6_0 {X : CX} {K : KX} {cc : ByteArray} {own : String} {nL : Nat} {ret : Option FieldType} {d : Nat} {cs : Nat × Nat} {Z : State → Prop} {pc : Nat} {st : List Value} {M : Mem} (C : CXok X K LAY cc own nL ret d) {L : List (Option Value)} {idx : Nat} {z : Int} (hl : Cond.fieldLink own idx "NearWords$Words" "size" "I" ∈ wsL_law0) (hd : decode cc pc = .ok (.putfield idx, 3)) (kk : PW X K LAY nL cs Z (pc + 3) L st (up2 M 6 0 z)) : PW X K LAY nL cs Z pc L (iV z :: rV K 6 :: st) M :=
  pw_put0 C lay_6 kc_9 gT_wsX90 tyX9 tyX9_ok nmX9 0 (by decide) rfl rfl rfl rfl hl hd kk
/-- words.length -/
theorem g_6_1 {X : CX} {K : KX} {cc : ByteArray} {own : String} {nL : Nat} {ret : Option FieldType} {d : Nat} {cs : Nat × Nat} {Z : State → Prop} {pc : Nat} {st : List Value} {M : Mem} (C : CXok X K LAY cc own nL ret d) {L : List (Option Value)} {idx : Nat} (hl : Cond.fieldLink own idx "NearWords$Words" "length" "I" ∈ wsL_law0) (hd : decode cc pc = .ok (.getfield idx, 3)) (kk : PW X K LAY nL cs Z (pc + 3) L (iV (M 6 1) :: st) M) : PW X K LAY nL cs Z pc L (rV K 6 :: st) M :=
  pw_get0 C lay_6 kc_9 gT_wsX90 1 (by decide) rfl hl hd kk
theorem p_6_1 {X : CX} {K : KX} {cc : ByteArray} {own : String} {nL : Nat} {ret : Option FieldType} {d : Nat} {cs : Nat × Nat} {Z : State → Prop} {pc : Nat} {st : List Value} {M : Mem} (C : CXok X K LAY cc own nL ret d) {L : List (Option Value)} {idx : Nat} {z : Int} (hl : Cond.fieldLink own idx "NearWords$Words" "length" "I" ∈ wsL_law0) (hd : decode cc pc = .ok (.putfield idx, 3)) (kk : PW X K LAY nL cs Z (pc + 3) L st (up2 M 6 1 z)) : PW X K LAY nL cs Z pc L (iV z :: rV K 6 :: st) M :=
  pw_put0 C lay_6 kc_9 gT_wsX90 tyX9 tyX9_ok nmX9 1 (by decide) rfl rfl rfl rfl hl hd kk
/-- words.rows -/
theorem g_6_2 {X : CX} {K : KX} {cc : ByteArray} {own : String} {nL : Nat} {ret : Option FieldType} {d : Nat} {cs : Nat × Nat} {Z : State → Prop} {pc : Nat} {st : List Value} {M : Mem} (C : CXok X K LAY cc own nL ret d) {L : List (Option Value)} {idx : Nat} (hl : Cond.fieldLink own idx "NearWords$Words" "rows" "[I" ∈ wsL_law0) (hd : decode cc pc = .ok (.getfield idx, 3)) (kk : PW X K LAY nL cs Z (pc + 3) L (rV K 7 :: st) M) : PW X K LAY nL cs Z pc L (rV K 6 :: st) M :=
  pw_get0 C lay_6 kc_9 gT_wsX90 2 (by decide) rfl hl hd kk
/-- words.parts -/
theorem g_6_3 {X : CX} {K : KX} {cc : ByteArray} {own : String} {nL : Nat} {ret : Option FieldType} {d : Nat} {cs : Nat × Nat} {Z : State → Prop} {pc : Nat} {st : List Value} {M : Mem} (C : CXok X K LAY cc own nL ret d) {L : List (Option Value)} {idx : Nat} (hl : Cond.fieldLink own idx "NearWords$Words" "parts" "[I" ∈ wsL_law0) (hd : decode cc pc = .ok (.getfield idx, 3)) (kk : PW X K LAY nL cs Z (pc + 3) L (rV K 8 :: st) M) : PW X K LAY nL cs Z pc L (rV K 6 :: st) M :=
  pw_get0 C lay_6 kc_9 gT_wsX90 3 (by decide) rfl hl hd kk
/-- texts.size -/
theorem g_9_0 {X : CX} {K : KX} {cc : ByteArray} {own : String} {nL : Nat} {ret : Option FieldType} {d : Nat} {cs : Nat × Nat} {Z : State → Prop} {pc : Nat} {st : List Value} {M : Mem} (C : CXok X K LAY cc own nL ret d) {L : List (Option Value)} {idx : Nat} (hl : Cond.fieldLink own idx "NearWords$Texts" "size" "I" ∈ wsL_law0) (hd : decode cc pc = .ok (.getfield idx, 3)) (kk : PW X K LAY nL cs Z (pc + 3) L (iV (M 9 0) :: st) M) : PW X K LAY nL cs Z pc L (rV K 9 :: st) M :=
  pw_get0 C lay_9 kc_7 gT_wsX70 0 (by decide) rfl hl hd kk
theorem p_9_0 {X : CX} {K : KX} {cc : ByteArray} {own : String} {nL : Nat} {ret : Option FieldType} {d : Nat} {cs : Nat × Nat} {Z : State → Prop} {pc : Nat} {st : List Value} {M : Mem} (C : CXok X K LAY cc own nL ret d) {L : List (Option Value)} {idx : Nat} {z : Int} (hl : Cond.fieldLink own idx "NearWords$Texts" "size" "I" ∈ wsL_law0) (hd : decode cc pc = .ok (.putfield idx, 3)) (kk : PW X K LAY nL cs Z (pc + 3) L st (up2 M 9 0 z)) : PW X K LAY nL cs Z pc L (iV z :: rV K 9 :: st) M :=
  pw_put0 C lay_9 kc_7 gT_wsX70 tyX7 tyX7_ok nmX7 0 (by decide) rfl rfl rfl rfl hl hd kk
/-- texts.rows -/
theorem g_9_1 {X : CX} {K : KX} {cc : ByteArray} {own : String} {nL : Nat} {ret : Option FieldType} {d : Nat} {cs : Nat × Nat} {Z : State → Prop} {pc : Nat} {st : List Value} {M : Mem} (C : CXok X K LAY cc own nL ret d) {L : List (Option Value)} {idx : Nat} (hl : Cond.fieldLink own idx "NearWords$Texts" "rows" "[I" ∈ wsL_law0) (hd : decode cc pc = .ok (.getfield idx, 3)) (kk : PW X K LAY nL cs Z (pc + 3) L (rV K 10 :: st) M) : PW X K LAY nL cs Z pc L (rV K 9 :: st) M :=
  pw_get0 C lay_9 kc_7 gT_wsX70 1 (by decide) rfl hl hd kk
/-- texts.lengths -/
theorem g_9_2 {X : CX} {K : KX} {cc : ByteArray} {own : String} {nL : Nat} {ret : Option FieldType} {d : Nat} {cs : Nat × Nat} {Z : State → Prop} {pc : Nat} {st : List Value} {M : Mem} (C : CXok X K LAY cc own nL ret d) {L : List (Option Value)} {idx : Nat} (hl : Cond.fieldLink own idx "NearWords$Texts" "lengths" "[I" ∈ wsL_law0) (hd : decode cc pc = .ok (.getfield idx, 3)) (kk : PW X K LAY nL cs Z (pc + 3) L (rV K 11 :: st) M) : PW X K LAY nL cs Z pc L (rV K 9 :: st) M :=
  pw_get0 C lay_9 kc_7 gT_wsX70 2 (by decide) rfl hl hd kk
/-- cand.words -/
theorem g_12_0 {X : CX} {K : KX} {cc : ByteArray} {own : String} {nL : Nat} {ret : Option FieldType} {d : Nat} {cs : Nat × Nat} {Z : State → Prop} {pc : Nat} {st : List Value} {M : Mem} (C : CXok X K LAY cc own nL ret d) {L : List (Option Value)} {idx : Nat} (hl : Cond.fieldLink own idx "NearWords$Candidates" "words" "LNearWords$Words;" ∈ wsL_law0) (hd : decode cc pc = .ok (.getfield idx, 3)) (kk : PW X K LAY nL cs Z (pc + 3) L (rV K 6 :: st) M) : PW X K LAY nL cs Z pc L (rV K 12 :: st) M :=
  pw_get0 C lay_12 kc_0 gT_wsX00 0 (by decide) rfl hl hd kk
/-- cand.walk -/
theorem g_12_1 {X : CX} {K : KX} {cc : ByteArray} {own : String} {nL : Nat} {ret : Option FieldType} {d : Nat} {cs : Nat × Nat} {Z : State → Prop} {pc : Nat} {st : List Value} {M : Mem} (C : CXok X K LAY cc own nL ret d) {L : List (Option Value)} {idx : Nat} (hl : Cond.fieldLink own idx "NearWords$Candidates" "walk" "LNearWords$Walk;" ∈ wsL_law0) (hd : decode cc pc = .ok (.getfield idx, 3)) (kk : PW X K LAY nL cs Z (pc + 3) L (rV K 15 :: st) M) : PW X K LAY nL cs Z pc L (rV K 12 :: st) M :=
  pw_get0 C lay_12 kc_0 gT_wsX00 1 (by decide) rfl hl hd kk
/-- cand.near -/
theorem g_12_2 {X : CX} {K : KX} {cc : ByteArray} {own : String} {nL : Nat} {ret : Option FieldType} {d : Nat} {cs : Nat × Nat} {Z : State → Prop} {pc : Nat} {st : List Value} {M : Mem} (C : CXok X K LAY cc own nL ret d) {L : List (Option Value)} {idx : Nat} (hl : Cond.fieldLink own idx "NearWords$Candidates" "near" "I" ∈ wsL_law0) (hd : decode cc pc = .ok (.getfield idx, 3)) (kk : PW X K LAY nL cs Z (pc + 3) L (iV (M 12 2) :: st) M) : PW X K LAY nL cs Z pc L (rV K 12 :: st) M :=
  pw_get0 C lay_12 kc_0 gT_wsX00 2 (by decide) rfl hl hd kk
theorem p_12_2 {X : CX} {K : KX} {cc : ByteArray} {own : String} {nL : Nat} {ret : Option FieldType} {d : Nat} {cs : Nat × Nat} {Z : State → Prop} {pc : Nat} {st : List Value} {M : Mem} (C : CXok X K LAY cc own nL ret d) {L : List (Option Value)} {idx : Nat} {z : Int} (hl : Cond.fieldLink own idx "NearWords$Candidates" "near" "I" ∈ wsL_law0) (hd : decode cc pc = .ok (.putfield idx, 3)) (kk : PW X K LAY nL cs Z (pc + 3) L st (up2 M 12 2 z)) : PW X K LAY nL cs Z pc L (iV z :: rV K 12 :: st) M :=
  pw_put0 C lay_12 kc_0 gT_wsX00 tyX0 tyX0_ok nmX0 2 (by decide) rfl rfl rfl rfl hl hd kk
/-- cand.bits -/
theorem g_12_3 {X : CX} {K : KX} {cc : ByteArray} {own : String} {nL : Nat} {ret : Option FieldType} {d : Nat} {cs : Nat × Nat} {Z : State → Prop} {pc : Nat} {st : List Value} {M : Mem} (C : CXok X K LAY cc own nL ret d) {L : List (Option Value)} {idx : Nat} (hl : Cond.fieldLink own idx "NearWords$Candidates" "bits" "[I" ∈ wsL_law0) (hd : decode cc pc = .ok (.getfield idx, 3)) (kk : PW X K LAY nL cs Z (pc + 3) L (rV K 13 :: st) M) : PW X K LAY nL cs Z pc L (rV K 12 :: st) M :=
  pw_get0 C lay_12 kc_0 gT_wsX00 3 (by decide) rfl hl hd kk
/-- cand.rules -/
theorem g_12_4 {X : CX} {K : KX} {cc : ByteArray} {own : String} {nL : Nat} {ret : Option FieldType} {d : Nat} {cs : Nat × Nat} {Z : State → Prop} {pc : Nat} {st : List Value} {M : Mem} (C : CXok X K LAY cc own nL ret d) {L : List (Option Value)} {idx : Nat} (hl : Cond.fieldLink own idx "NearWords$Candidates" "rules" "LNearWords$Rules;" ∈ wsL_law0) (hd : decode cc pc = .ok (.getfield idx, 3)) (kk : PW X K LAY nL cs Z (pc + 3) L (rV K 1 :: st) M) : PW X K LAY nL cs Z pc L (rV K 12 :: st) M :=
  pw_get0 C lay_12 kc_0 gT_wsX00 4 (by decide) rfl hl hd kk
/-- cand.row -/
theorem g_12_5 {X : CX} {K : KX} {cc : ByteArray} {own : String} {nL : Nat} {ret : Option FieldType} {d : Nat} {cs : Nat × Nat} {Z : State → Prop} {pc : Nat} {st : List Value} {M : Mem} (C : CXok X K LAY cc own nL ret d) {L : List (Option Value)} {idx : Nat} (hl : Cond.fieldLink own idx "NearWords$Candidates" "row" "[I" ∈ wsL_law0) (hd : decode cc pc = .ok (.getfield idx, 3)) (kk : PW X K LAY nL cs Z (pc + 3) L (rV K 14 :: st) M) : PW X K LAY nL cs Z pc L (rV K 12 :: st) M :=
  pw_get0 C lay_12 kc_0 gT_wsX00 5 (by decide) rfl hl hd kk
/-- walk.length -/
theorem g_15_0 {X : CX} {K : KX} {cc : ByteArray} {own : String} {nL : Nat} {ret : Option FieldType} {d : Nat} {cs : Nat × Nat} {Z : State → Prop} {pc : Nat} {st : List Value} {M : Mem} (C : CXok X K LAY cc own nL ret d) {L : List (Option Value)} {idx : Nat} (hl : Cond.fieldLink own idx "NearWords$Walk" "length" "I" ∈ wsL_law0) (hd : decode cc pc = .ok (.getfield idx, 3)) (kk : PW X K LAY nL cs Z (pc + 3) L (iV (M 15 0) :: st) M) : PW X K LAY nL cs Z pc L (rV K 15 :: st) M :=
  pw_get0 C lay_15 kc_8 gT_wsX80 0 (by decide) rfl hl hd kk
theorem p_15_0 {X : CX} {K : KX} {cc : ByteArray} {own : String} {nL : Nat} {ret : Option FieldType} {d : Nat} {cs : Nat × Nat} {Z : State → Prop} {pc : Nat} {st : List Value} {M : Mem} (C : CXok X K LAY cc own nL ret d) {L : List (Option Value)} {idx : Nat} {z : Int} (hl : Cond.fieldLink own idx "NearWords$Walk" "length" "I" ∈ wsL_law0) (hd : decode cc pc = .ok (.putfield idx, 3)) (kk : PW X K LAY nL cs Z (pc + 3) L st (up2 M 15 0 z)) : PW X K LAY nL cs Z pc L (iV z :: rV K 15 :: st) M :=
  pw_put0 C lay_15 kc_8 gT_wsX80 tyX8 tyX8_ok nmX8 0 (by decide) rfl rfl rfl rfl hl hd kk
/-- walk.targets -/
theorem g_15_1 {X : CX} {K : KX} {cc : ByteArray} {own : String} {nL : Nat} {ret : Option FieldType} {d : Nat} {cs : Nat × Nat} {Z : State → Prop} {pc : Nat} {st : List Value} {M : Mem} (C : CXok X K LAY cc own nL ret d) {L : List (Option Value)} {idx : Nat} (hl : Cond.fieldLink own idx "NearWords$Walk" "targets" "I" ∈ wsL_law0) (hd : decode cc pc = .ok (.getfield idx, 3)) (kk : PW X K LAY nL cs Z (pc + 3) L (iV (M 15 1) :: st) M) : PW X K LAY nL cs Z pc L (rV K 15 :: st) M :=
  pw_get0 C lay_15 kc_8 gT_wsX80 1 (by decide) rfl hl hd kk
theorem p_15_1 {X : CX} {K : KX} {cc : ByteArray} {own : String} {nL : Nat} {ret : Option FieldType} {d : Nat} {cs : Nat × Nat} {Z : State → Prop} {pc : Nat} {st : List Value} {M : Mem} (C : CXok X K LAY cc own nL ret d) {L : List (Option Value)} {idx : Nat} {z : Int} (hl : Cond.fieldLink own idx "NearWords$Walk" "targets" "I" ∈ wsL_law0) (hd : decode cc pc = .ok (.putfield idx, 3)) (kk : PW X K LAY nL cs Z (pc + 3) L st (up2 M 15 1 z)) : PW X K LAY nL cs Z pc L (iV z :: rV K 15 :: st) M :=
  pw_put0 C lay_15 kc_8 gT_wsX80 tyX8 tyX8_ok nmX8 1 (by decide) rfl rfl rfl rfl hl hd kk
/-- walk.row -/
theorem g_15_2 {X : CX} {K : KX} {cc : ByteArray} {own : String} {nL : Nat} {ret : Option FieldType} {d : Nat} {cs : Nat × Nat} {Z : State → Prop} {pc : Nat} {st : List Value} {M : Mem} (C : CXok X K LAY cc own nL ret d) {L : List (Option Value)} {idx : Nat} (hl : Cond.fieldLink own idx "NearWords$Walk" "row" "[I" ∈ wsL_law0) (hd : decode cc pc = .ok (.getfield idx, 3)) (kk : PW X K LAY nL cs Z (pc + 3) L (rV K 16 :: st) M) : PW X K LAY nL cs Z pc L (rV K 15 :: st) M :=
  pw_get0 C lay_15 kc_8 gT_wsX80 2 (by decide) rfl hl hd kk
/-- walk.sums -/
theorem g_15_3 {X : CX} {K : KX} {cc : ByteArray} {own : String} {nL : Nat} {ret : Option FieldType} {d : Nat} {cs : Nat × Nat} {Z : State → Prop} {pc : Nat} {st : List Value} {M : Mem} (C : CXok X K LAY cc own nL ret d) {L : List (Option Value)} {idx : Nat} (hl : Cond.fieldLink own idx "NearWords$Walk" "sums" "[I" ∈ wsL_law0) (hd : decode cc pc = .ok (.getfield idx, 3)) (kk : PW X K LAY nL cs Z (pc + 3) L (rV K 17 :: st) M) : PW X K LAY nL cs Z pc L (rV K 15 :: st) M :=
  pw_get0 C lay_15 kc_8 gT_wsX80 3 (by decide) rfl hl hd kk
/-- walk.width -/
theorem g_15_4 {X : CX} {K : KX} {cc : ByteArray} {own : String} {nL : Nat} {ret : Option FieldType} {d : Nat} {cs : Nat × Nat} {Z : State → Prop} {pc : Nat} {st : List Value} {M : Mem} (C : CXok X K LAY cc own nL ret d) {L : List (Option Value)} {idx : Nat} (hl : Cond.fieldLink own idx "NearWords$Walk" "width" "I" ∈ wsL_law0) (hd : decode cc pc = .ok (.getfield idx, 3)) (kk : PW X K LAY nL cs Z (pc + 3) L (iV (M 15 4) :: st) M) : PW X K LAY nL cs Z pc L (rV K 15 :: st) M :=
  pw_get0 C lay_15 kc_8 gT_wsX80 4 (by decide) rfl hl hd kk
/-- walk.rules -/
theorem g_15_5 {X : CX} {K : KX} {cc : ByteArray} {own : String} {nL : Nat} {ret : Option FieldType} {d : Nat} {cs : Nat × Nat} {Z : State → Prop} {pc : Nat} {st : List Value} {M : Mem} (C : CXok X K LAY cc own nL ret d) {L : List (Option Value)} {idx : Nat} (hl : Cond.fieldLink own idx "NearWords$Walk" "rules" "LNearWords$Rules;" ∈ wsL_law0) (hd : decode cc pc = .ok (.getfield idx, 3)) (kk : PW X K LAY nL cs Z (pc + 3) L (rV K 1 :: st) M) : PW X K LAY nL cs Z pc L (rV K 15 :: st) M :=
  pw_get0 C lay_15 kc_8 gT_wsX80 5 (by decide) rfl hl hd kk
/-- walk.aims -/
theorem g_15_6 {X : CX} {K : KX} {cc : ByteArray} {own : String} {nL : Nat} {ret : Option FieldType} {d : Nat} {cs : Nat × Nat} {Z : State → Prop} {pc : Nat} {st : List Value} {M : Mem} (C : CXok X K LAY cc own nL ret d) {L : List (Option Value)} {idx : Nat} (hl : Cond.fieldLink own idx "NearWords$Walk" "aims" "[I" ∈ wsL_law0) (hd : decode cc pc = .ok (.getfield idx, 3)) (kk : PW X K LAY nL cs Z (pc + 3) L (rV K 18 :: st) M) : PW X K LAY nL cs Z pc L (rV K 15 :: st) M :=
  pw_get0 C lay_15 kc_8 gT_wsX80 6 (by decide) rfl hl hd kk
/-- walk.packed -/
theorem g_15_7 {X : CX} {K : KX} {cc : ByteArray} {own : String} {nL : Nat} {ret : Option FieldType} {d : Nat} {cs : Nat × Nat} {Z : State → Prop} {pc : Nat} {st : List Value} {M : Mem} (C : CXok X K LAY cc own nL ret d) {L : List (Option Value)} {idx : Nat} (hl : Cond.fieldLink own idx "NearWords$Walk" "packed" "[I" ∈ wsL_law0) (hd : decode cc pc = .ok (.getfield idx, 3)) (kk : PW X K LAY nL cs Z (pc + 3) L (rV K 19 :: st) M) : PW X K LAY nL cs Z pc L (rV K 15 :: st) M :=
  pw_get0 C lay_15 kc_8 gT_wsX80 7 (by decide) rfl hl hd kk
/-- walk.spots -/
theorem g_15_8 {X : CX} {K : KX} {cc : ByteArray} {own : String} {nL : Nat} {ret : Option FieldType} {d : Nat} {cs : Nat × Nat} {Z : State → Prop} {pc : Nat} {st : List Value} {M : Mem} (C : CXok X K LAY cc own nL ret d) {L : List (Option Value)} {idx : Nat} (hl : Cond.fieldLink own idx "NearWords$Walk" "spots" "[I" ∈ wsL_law0) (hd : decode cc pc = .ok (.getfield idx, 3)) (kk : PW X K LAY nL cs Z (pc + 3) L (rV K 20 :: st) M) : PW X K LAY nL cs Z pc L (rV K 15 :: st) M :=
  pw_get0 C lay_15 kc_8 gT_wsX80 8 (by decide) rfl hl hd kk
/-- survey.fresh -/
theorem g_21_0 {X : CX} {K : KX} {cc : ByteArray} {own : String} {nL : Nat} {ret : Option FieldType} {d : Nat} {cs : Nat × Nat} {Z : State → Prop} {pc : Nat} {st : List Value} {M : Mem} (C : CXok X K LAY cc own nL ret d) {L : List (Option Value)} {idx : Nat} (hl : Cond.fieldLink own idx "NearWords$Survey" "fresh" "Z" ∈ wsL_law0) (hd : decode cc pc = .ok (.getfield idx, 3)) (kk : PW X K LAY nL cs Z (pc + 3) L (iV (M 21 0) :: st) M) : PW X K LAY nL cs Z pc L (rV K 21 :: st) M :=
  pw_get0 C lay_21 kc_5 gT_wsX50 0 (by decide) rfl hl hd kk
theorem p_21_0 {X : CX} {K : KX} {cc : ByteArray} {own : String} {nL : Nat} {ret : Option FieldType} {d : Nat} {cs : Nat × Nat} {Z : State → Prop} {pc : Nat} {st : List Value} {M : Mem} (C : CXok X K LAY cc own nL ret d) {L : List (Option Value)} {idx : Nat} {z : Int} (hz : z = 0 ∨ z = 1) (hl : Cond.fieldLink own idx "NearWords$Survey" "fresh" "Z" ∈ wsL_law0) (hd : decode cc pc = .ok (.putfield idx, 3)) (kk : PW X K LAY nL cs Z (pc + 3) L st (up2 M 21 0 z)) : PW X K LAY nL cs Z pc L (iV z :: rV K 21 :: st) M :=
  pw_put0 C lay_21 kc_5 gT_wsX50 tyX5 tyX5_ok nmX5 0 (by decide) rfl rfl (by rcases hz with rfl | rfl <;> decide) (by rcases hz with rfl | rfl <;> decide) hl hd kk
/-- survey.radius -/
theorem g_21_1 {X : CX} {K : KX} {cc : ByteArray} {own : String} {nL : Nat} {ret : Option FieldType} {d : Nat} {cs : Nat × Nat} {Z : State → Prop} {pc : Nat} {st : List Value} {M : Mem} (C : CXok X K LAY cc own nL ret d) {L : List (Option Value)} {idx : Nat} (hl : Cond.fieldLink own idx "NearWords$Survey" "radius" "I" ∈ wsL_law0) (hd : decode cc pc = .ok (.getfield idx, 3)) (kk : PW X K LAY nL cs Z (pc + 3) L (iV (M 21 1) :: st) M) : PW X K LAY nL cs Z pc L (rV K 21 :: st) M :=
  pw_get0 C lay_21 kc_5 gT_wsX50 1 (by decide) rfl hl hd kk
theorem p_21_1 {X : CX} {K : KX} {cc : ByteArray} {own : String} {nL : Nat} {ret : Option FieldType} {d : Nat} {cs : Nat × Nat} {Z : State → Prop} {pc : Nat} {st : List Value} {M : Mem} (C : CXok X K LAY cc own nL ret d) {L : List (Option Value)} {idx : Nat} {z : Int} (hl : Cond.fieldLink own idx "NearWords$Survey" "radius" "I" ∈ wsL_law0) (hd : decode cc pc = .ok (.putfield idx, 3)) (kk : PW X K LAY nL cs Z (pc + 3) L st (up2 M 21 1 z)) : PW X K LAY nL cs Z pc L (iV z :: rV K 21 :: st) M :=
  pw_put0 C lay_21 kc_5 gT_wsX50 tyX5 tyX5_ok nmX5 1 (by decide) rfl rfl rfl rfl hl hd kk
/-- survey.centreRow -/
theorem g_21_2 {X : CX} {K : KX} {cc : ByteArray} {own : String} {nL : Nat} {ret : Option FieldType} {d : Nat} {cs : Nat × Nat} {Z : State → Prop} {pc : Nat} {st : List Value} {M : Mem} (C : CXok X K LAY cc own nL ret d) {L : List (Option Value)} {idx : Nat} (hl : Cond.fieldLink own idx "NearWords$Survey" "centreRow" "I" ∈ wsL_law0) (hd : decode cc pc = .ok (.getfield idx, 3)) (kk : PW X K LAY nL cs Z (pc + 3) L (iV (M 21 2) :: st) M) : PW X K LAY nL cs Z pc L (rV K 21 :: st) M :=
  pw_get0 C lay_21 kc_5 gT_wsX50 2 (by decide) rfl hl hd kk
theorem p_21_2 {X : CX} {K : KX} {cc : ByteArray} {own : String} {nL : Nat} {ret : Option FieldType} {d : Nat} {cs : Nat × Nat} {Z : State → Prop} {pc : Nat} {st : List Value} {M : Mem} (C : CXok X K LAY cc own nL ret d) {L : List (Option Value)} {idx : Nat} {z : Int} (hl : Cond.fieldLink own idx "NearWords$Survey" "centreRow" "I" ∈ wsL_law0) (hd : decode cc pc = .ok (.putfield idx, 3)) (kk : PW X K LAY nL cs Z (pc + 3) L st (up2 M 21 2 z)) : PW X K LAY nL cs Z pc L (iV z :: rV K 21 :: st) M :=
  pw_put0 C lay_21 kc_5 gT_wsX50 tyX5 tyX5_ok nmX5 2 (by decide) rfl rfl rfl rfl hl hd kk
/-- survey.sum -/
theorem g_21_3 {X : CX} {K : KX} {cc : ByteArray} {own : String} {nL : Nat} {ret : Option FieldType} {d : Nat} {cs : Nat × Nat} {Z : State → Prop} {pc : Nat} {st : List Value} {M : Mem} (C : CXok X K LAY cc own nL ret d) {L : List (Option Value)} {idx : Nat} (hl : Cond.fieldLink own idx "NearWords$Survey" "sum" "I" ∈ wsL_law0) (hd : decode cc pc = .ok (.getfield idx, 3)) (kk : PW X K LAY nL cs Z (pc + 3) L (iV (M 21 3) :: st) M) : PW X K LAY nL cs Z pc L (rV K 21 :: st) M :=
  pw_get0 C lay_21 kc_5 gT_wsX50 3 (by decide) rfl hl hd kk
theorem p_21_3 {X : CX} {K : KX} {cc : ByteArray} {own : String} {nL : Nat} {ret : Option FieldType} {d : Nat} {cs : Nat × Nat} {Z : State → Prop} {pc : Nat} {st : List Value} {M : Mem} (C : CXok X K LAY cc own nL ret d) {L : List (Option Value)} {idx : Nat} {z : Int} (hl : Cond.fieldLink own idx "NearWords$Survey" "sum" "I" ∈ wsL_law0) (hd : decode cc pc = .ok (.putfield idx, 3)) (kk : PW X K LAY nL cs Z (pc + 3) L st (up2 M 21 3 z)) : PW X K LAY nL cs Z pc L (iV z :: rV K 21 :: st) M :=
  pw_put0 C lay_21 kc_5 gT_wsX50 tyX5 tyX5_ok nmX5 3 (by decide) rfl rfl rfl rfl hl hd kk
/-- survey.medianRow -/
theorem g_21_4 {X : CX} {K : KX} {cc : ByteArray} {own : String} {nL : Nat} {ret : Option FieldType} {d : Nat} {cs : Nat × Nat} {Z : State → Prop} {pc : Nat} {st : List Value} {M : Mem} (C : CXok X K LAY cc own nL ret d) {L : List (Option Value)} {idx : Nat} (hl : Cond.fieldLink own idx "NearWords$Survey" "medianRow" "I" ∈ wsL_law0) (hd : decode cc pc = .ok (.getfield idx, 3)) (kk : PW X K LAY nL cs Z (pc + 3) L (iV (M 21 4) :: st) M) : PW X K LAY nL cs Z pc L (rV K 21 :: st) M :=
  pw_get0 C lay_21 kc_5 gT_wsX50 4 (by decide) rfl hl hd kk
theorem p_21_4 {X : CX} {K : KX} {cc : ByteArray} {own : String} {nL : Nat} {ret : Option FieldType} {d : Nat} {cs : Nat × Nat} {Z : State → Prop} {pc : Nat} {st : List Value} {M : Mem} (C : CXok X K LAY cc own nL ret d) {L : List (Option Value)} {idx : Nat} {z : Int} (hl : Cond.fieldLink own idx "NearWords$Survey" "medianRow" "I" ∈ wsL_law0) (hd : decode cc pc = .ok (.putfield idx, 3)) (kk : PW X K LAY nL cs Z (pc + 3) L st (up2 M 21 4 z)) : PW X K LAY nL cs Z pc L (iV z :: rV K 21 :: st) M :=
  pw_put0 C lay_21 kc_5 gT_wsX50 tyX5 tyX5_ok nmX5 4 (by decide) rfl rfl rfl rfl hl hd kk
/-- survey.medians -/
theorem g_21_5 {X : CX} {K : KX} {cc : ByteArray} {own : String} {nL : Nat} {ret : Option FieldType} {d : Nat} {cs : Nat × Nat} {Z : State → Prop} {pc : Nat} {st : List Value} {M : Mem} (C : CXok X K LAY cc own nL ret d) {L : List (Option Value)} {idx : Nat} (hl : Cond.fieldLink own idx "NearWords$Survey" "medians" "I" ∈ wsL_law0) (hd : decode cc pc = .ok (.getfield idx, 3)) (kk : PW X K LAY nL cs Z (pc + 3) L (iV (M 21 5) :: st) M) : PW X K LAY nL cs Z pc L (rV K 21 :: st) M :=
  pw_get0 C lay_21 kc_5 gT_wsX50 5 (by decide) rfl hl hd kk
theorem p_21_5 {X : CX} {K : KX} {cc : ByteArray} {own : String} {nL : Nat} {ret : Option FieldType} {d : Nat} {cs : Nat × Nat} {Z : State → Prop} {pc : Nat} {st : List Value} {M : Mem} (C : CXok X K LAY cc own nL ret d) {L : List (Option Value)} {idx : Nat} {z : Int} (hl : Cond.fieldLink own idx "NearWords$Survey" "medians" "I" ∈ wsL_law0) (hd : decode cc pc = .ok (.putfield idx, 3)) (kk : PW X K LAY nL cs Z (pc + 3) L st (up2 M 21 5 z)) : PW X K LAY nL cs Z pc L (iV z :: rV K 21 :: st) M :=
  pw_put0 C lay_21 kc_5 gT_wsX50 tyX5 tyX5_ok nmX5 5 (by decide) rfl rfl rfl rfl hl hd kk
/-- survey.counts -/
theorem g_21_6 {X : CX} {K : KX} {cc : ByteArray} {own : String} {nL : Nat} {ret : Option FieldType} {d : Nat} {cs : Nat × Nat} {Z : State → Prop} {pc : Nat} {st : List Value} {M : Mem} (C : CXok X K LAY cc own nL ret d) {L : List (Option Value)} {idx : Nat} (hl : Cond.fieldLink own idx "NearWords$Survey" "counts" "[I" ∈ wsL_law0) (hd : decode cc pc = .ok (.getfield idx, 3)) (kk : PW X K LAY nL cs Z (pc + 3) L (rV K 22 :: st) M) : PW X K LAY nL cs Z pc L (rV K 21 :: st) M :=
  pw_get0 C lay_21 kc_5 gT_wsX50 6 (by decide) rfl hl hd kk
/-- survey.seen -/
theorem g_21_7 {X : CX} {K : KX} {cc : ByteArray} {own : String} {nL : Nat} {ret : Option FieldType} {d : Nat} {cs : Nat × Nat} {Z : State → Prop} {pc : Nat} {st : List Value} {M : Mem} (C : CXok X K LAY cc own nL ret d) {L : List (Option Value)} {idx : Nat} (hl : Cond.fieldLink own idx "NearWords$Survey" "seen" "[I" ∈ wsL_law0) (hd : decode cc pc = .ok (.getfield idx, 3)) (kk : PW X K LAY nL cs Z (pc + 3) L (rV K 23 :: st) M) : PW X K LAY nL cs Z pc L (rV K 21 :: st) M :=
  pw_get0 C lay_21 kc_5 gT_wsX50 7 (by decide) rfl hl hd kk
/-- survey.candidates -/
theorem g_21_8 {X : CX} {K : KX} {cc : ByteArray} {own : String} {nL : Nat} {ret : Option FieldType} {d : Nat} {cs : Nat × Nat} {Z : State → Prop} {pc : Nat} {st : List Value} {M : Mem} (C : CXok X K LAY cc own nL ret d) {L : List (Option Value)} {idx : Nat} (hl : Cond.fieldLink own idx "NearWords$Survey" "candidates" "LNearWords$Candidates;" ∈ wsL_law0) (hd : decode cc pc = .ok (.getfield idx, 3)) (kk : PW X K LAY nL cs Z (pc + 3) L (rV K 12 :: st) M) : PW X K LAY nL cs Z pc L (rV K 21 :: st) M :=
  pw_get0 C lay_21 kc_5 gT_wsX50 8 (by decide) rfl hl hd kk
/-- sets.fresh -/
theorem g_24_0 {X : CX} {K : KX} {cc : ByteArray} {own : String} {nL : Nat} {ret : Option FieldType} {d : Nat} {cs : Nat × Nat} {Z : State → Prop} {pc : Nat} {st : List Value} {M : Mem} (C : CXok X K LAY cc own nL ret d) {L : List (Option Value)} {idx : Nat} (hl : Cond.fieldLink own idx "NearWords$Sets" "fresh" "Z" ∈ wsL_law0) (hd : decode cc pc = .ok (.getfield idx, 3)) (kk : PW X K LAY nL cs Z (pc + 3) L (iV (M 24 0) :: st) M) : PW X K LAY nL cs Z pc L (rV K 24 :: st) M :=
  pw_get0 C lay_24 kc_4 gT_wsX40 0 (by decide) rfl hl hd kk
theorem p_24_0 {X : CX} {K : KX} {cc : ByteArray} {own : String} {nL : Nat} {ret : Option FieldType} {d : Nat} {cs : Nat × Nat} {Z : State → Prop} {pc : Nat} {st : List Value} {M : Mem} (C : CXok X K LAY cc own nL ret d) {L : List (Option Value)} {idx : Nat} {z : Int} (hz : z = 0 ∨ z = 1) (hl : Cond.fieldLink own idx "NearWords$Sets" "fresh" "Z" ∈ wsL_law0) (hd : decode cc pc = .ok (.putfield idx, 3)) (kk : PW X K LAY nL cs Z (pc + 3) L st (up2 M 24 0 z)) : PW X K LAY nL cs Z pc L (iV z :: rV K 24 :: st) M :=
  pw_put0 C lay_24 kc_4 gT_wsX40 tyX4 tyX4_ok nmX4 0 (by decide) rfl rfl (by rcases hz with rfl | rfl <;> decide) (by rcases hz with rfl | rfl <;> decide) hl hd kk
/-- sets.covered -/
theorem g_24_1 {X : CX} {K : KX} {cc : ByteArray} {own : String} {nL : Nat} {ret : Option FieldType} {d : Nat} {cs : Nat × Nat} {Z : State → Prop} {pc : Nat} {st : List Value} {M : Mem} (C : CXok X K LAY cc own nL ret d) {L : List (Option Value)} {idx : Nat} (hl : Cond.fieldLink own idx "NearWords$Sets" "covered" "[I" ∈ wsL_law0) (hd : decode cc pc = .ok (.getfield idx, 3)) (kk : PW X K LAY nL cs Z (pc + 3) L (rV K 25 :: st) M) : PW X K LAY nL cs Z pc L (rV K 24 :: st) M :=
  pw_get0 C lay_24 kc_4 gT_wsX40 1 (by decide) rfl hl hd kk
/-- sets.candidates -/
theorem g_24_2 {X : CX} {K : KX} {cc : ByteArray} {own : String} {nL : Nat} {ret : Option FieldType} {d : Nat} {cs : Nat × Nat} {Z : State → Prop} {pc : Nat} {st : List Value} {M : Mem} (C : CXok X K LAY cc own nL ret d) {L : List (Option Value)} {idx : Nat} (hl : Cond.fieldLink own idx "NearWords$Sets" "candidates" "LNearWords$Candidates;" ∈ wsL_law0) (hd : decode cc pc = .ok (.getfield idx, 3)) (kk : PW X K LAY nL cs Z (pc + 3) L (rV K 12 :: st) M) : PW X K LAY nL cs Z pc L (rV K 24 :: st) M :=
  pw_get0 C lay_24 kc_4 gT_wsX40 2 (by decide) rfl hl hd kk
/-- sets.keys -/
theorem g_24_3 {X : CX} {K : KX} {cc : ByteArray} {own : String} {nL : Nat} {ret : Option FieldType} {d : Nat} {cs : Nat × Nat} {Z : State → Prop} {pc : Nat} {st : List Value} {M : Mem} (C : CXok X K LAY cc own nL ret d) {L : List (Option Value)} {idx : Nat} (hl : Cond.fieldLink own idx "NearWords$Sets" "keys" "[I" ∈ wsL_law0) (hd : decode cc pc = .ok (.getfield idx, 3)) (kk : PW X K LAY nL cs Z (pc + 3) L (rV K 26 :: st) M) : PW X K LAY nL cs Z pc L (rV K 24 :: st) M :=
  pw_get0 C lay_24 kc_4 gT_wsX40 3 (by decide) rfl hl hd kk
/-- sets.parted -/
theorem g_24_4 {X : CX} {K : KX} {cc : ByteArray} {own : String} {nL : Nat} {ret : Option FieldType} {d : Nat} {cs : Nat × Nat} {Z : State → Prop} {pc : Nat} {st : List Value} {M : Mem} (C : CXok X K LAY cc own nL ret d) {L : List (Option Value)} {idx : Nat} (hl : Cond.fieldLink own idx "NearWords$Sets" "parted" "[I" ∈ wsL_law0) (hd : decode cc pc = .ok (.getfield idx, 3)) (kk : PW X K LAY nL cs Z (pc + 3) L (rV K 27 :: st) M) : PW X K LAY nL cs Z pc L (rV K 24 :: st) M :=
  pw_get0 C lay_24 kc_4 gT_wsX40 4 (by decide) rfl hl hd kk
/-- sets.order -/
theorem g_24_5 {X : CX} {K : KX} {cc : ByteArray} {own : String} {nL : Nat} {ret : Option FieldType} {d : Nat} {cs : Nat × Nat} {Z : State → Prop} {pc : Nat} {st : List Value} {M : Mem} (C : CXok X K LAY cc own nL ret d) {L : List (Option Value)} {idx : Nat} (hl : Cond.fieldLink own idx "NearWords$Sets" "order" "[I" ∈ wsL_law0) (hd : decode cc pc = .ok (.getfield idx, 3)) (kk : PW X K LAY nL cs Z (pc + 3) L (rV K 28 :: st) M) : PW X K LAY nL cs Z pc L (rV K 24 :: st) M :=
  pw_get0 C lay_24 kc_4 gT_wsX40 5 (by decide) rfl hl hd kk
/-- sets.nearBits -/
theorem g_24_6 {X : CX} {K : KX} {cc : ByteArray} {own : String} {nL : Nat} {ret : Option FieldType} {d : Nat} {cs : Nat × Nat} {Z : State → Prop} {pc : Nat} {st : List Value} {M : Mem} (C : CXok X K LAY cc own nL ret d) {L : List (Option Value)} {idx : Nat} (hl : Cond.fieldLink own idx "NearWords$Sets" "nearBits" "I" ∈ wsL_law0) (hd : decode cc pc = .ok (.getfield idx, 3)) (kk : PW X K LAY nL cs Z (pc + 3) L (iV (M 24 6) :: st) M) : PW X K LAY nL cs Z pc L (rV K 24 :: st) M :=
  pw_get0 C lay_24 kc_4 gT_wsX40 6 (by decide) rfl hl hd kk
theorem p_24_6 {X : CX} {K : KX} {cc : ByteArray} {own : String} {nL : Nat} {ret : Option FieldType} {d : Nat} {cs : Nat × Nat} {Z : State → Prop} {pc : Nat} {st : List Value} {M : Mem} (C : CXok X K LAY cc own nL ret d) {L : List (Option Value)} {idx : Nat} {z : Int} (hl : Cond.fieldLink own idx "NearWords$Sets" "nearBits" "I" ∈ wsL_law0) (hd : decode cc pc = .ok (.putfield idx, 3)) (kk : PW X K LAY nL cs Z (pc + 3) L st (up2 M 24 6 z)) : PW X K LAY nL cs Z pc L (iV z :: rV K 24 :: st) M :=
  pw_put0 C lay_24 kc_4 gT_wsX40 tyX4 tyX4_ok nmX4 6 (by decide) rfl rfl rfl rfl hl hd kk
/-- middle.fresh -/
theorem g_29_0 {X : CX} {K : KX} {cc : ByteArray} {own : String} {nL : Nat} {ret : Option FieldType} {d : Nat} {cs : Nat × Nat} {Z : State → Prop} {pc : Nat} {st : List Value} {M : Mem} (C : CXok X K LAY cc own nL ret d) {L : List (Option Value)} {idx : Nat} (hl : Cond.fieldLink own idx "NearWords$Middle" "fresh" "Z" ∈ wsL_law0) (hd : decode cc pc = .ok (.getfield idx, 3)) (kk : PW X K LAY nL cs Z (pc + 3) L (iV (M 29 0) :: st) M) : PW X K LAY nL cs Z pc L (rV K 29 :: st) M :=
  pw_get0 C lay_29 kc_1 gT_wsX10 0 (by decide) rfl hl hd kk
theorem p_29_0 {X : CX} {K : KX} {cc : ByteArray} {own : String} {nL : Nat} {ret : Option FieldType} {d : Nat} {cs : Nat × Nat} {Z : State → Prop} {pc : Nat} {st : List Value} {M : Mem} (C : CXok X K LAY cc own nL ret d) {L : List (Option Value)} {idx : Nat} {z : Int} (hz : z = 0 ∨ z = 1) (hl : Cond.fieldLink own idx "NearWords$Middle" "fresh" "Z" ∈ wsL_law0) (hd : decode cc pc = .ok (.putfield idx, 3)) (kk : PW X K LAY nL cs Z (pc + 3) L st (up2 M 29 0 z)) : PW X K LAY nL cs Z pc L (iV z :: rV K 29 :: st) M :=
  pw_put0 C lay_29 kc_1 gT_wsX10 tyX1 tyX1_ok nmX1 0 (by decide) rfl rfl (by rcases hz with rfl | rfl <;> decide) (by rcases hz with rfl | rfl <;> decide) hl hd kk
/-- middle.sum -/
theorem g_29_1 {X : CX} {K : KX} {cc : ByteArray} {own : String} {nL : Nat} {ret : Option FieldType} {d : Nat} {cs : Nat × Nat} {Z : State → Prop} {pc : Nat} {st : List Value} {M : Mem} (C : CXok X K LAY cc own nL ret d) {L : List (Option Value)} {idx : Nat} (hl : Cond.fieldLink own idx "NearWords$Middle" "sum" "I" ∈ wsL_law0) (hd : decode cc pc = .ok (.getfield idx, 3)) (kk : PW X K LAY nL cs Z (pc + 3) L (iV (M 29 1) :: st) M) : PW X K LAY nL cs Z pc L (rV K 29 :: st) M :=
  pw_get0 C lay_29 kc_1 gT_wsX10 1 (by decide) rfl hl hd kk
theorem p_29_1 {X : CX} {K : KX} {cc : ByteArray} {own : String} {nL : Nat} {ret : Option FieldType} {d : Nat} {cs : Nat × Nat} {Z : State → Prop} {pc : Nat} {st : List Value} {M : Mem} (C : CXok X K LAY cc own nL ret d) {L : List (Option Value)} {idx : Nat} {z : Int} (hl : Cond.fieldLink own idx "NearWords$Middle" "sum" "I" ∈ wsL_law0) (hd : decode cc pc = .ok (.putfield idx, 3)) (kk : PW X K LAY nL cs Z (pc + 3) L st (up2 M 29 1 z)) : PW X K LAY nL cs Z pc L (iV z :: rV K 29 :: st) M :=
  pw_put0 C lay_29 kc_1 gT_wsX10 tyX1 tyX1_ok nmX1 1 (by decide) rfl rfl rfl rfl hl hd kk
/-- middle.length -/
theorem g_29_2 {X : CX} {K : KX} {cc : ByteArray} {own : String} {nL : Nat} {ret : Option FieldType} {d : Nat} {cs : Nat × Nat} {Z : State → Prop} {pc : Nat} {st : List Value} {M : Mem} (C : CXok X K LAY cc own nL ret d) {L : List (Option Value)} {idx : Nat} (hl : Cond.fieldLink own idx "NearWords$Middle" "length" "I" ∈ wsL_law0) (hd : decode cc pc = .ok (.getfield idx, 3)) (kk : PW X K LAY nL cs Z (pc + 3) L (iV (M 29 2) :: st) M) : PW X K LAY nL cs Z pc L (rV K 29 :: st) M :=
  pw_get0 C lay_29 kc_1 gT_wsX10 2 (by decide) rfl hl hd kk
theorem p_29_2 {X : CX} {K : KX} {cc : ByteArray} {own : String} {nL : Nat} {ret : Option FieldType} {d : Nat} {cs : Nat × Nat} {Z : State → Prop} {pc : Nat} {st : List Value} {M : Mem} (C : CXok X K LAY cc own nL ret d) {L : List (Option Value)} {idx : Nat} {z : Int} (hl : Cond.fieldLink own idx "NearWords$Middle" "length" "I" ∈ wsL_law0) (hd : decode cc pc = .ok (.putfield idx, 3)) (kk : PW X K LAY nL cs Z (pc + 3) L st (up2 M 29 2 z)) : PW X K LAY nL cs Z pc L (iV z :: rV K 29 :: st) M :=
  pw_put0 C lay_29 kc_1 gT_wsX10 tyX1 tyX1_ok nmX1 2 (by decide) rfl rfl rfl rfl hl hd kk
/-- middle.found -/
theorem g_29_3 {X : CX} {K : KX} {cc : ByteArray} {own : String} {nL : Nat} {ret : Option FieldType} {d : Nat} {cs : Nat × Nat} {Z : State → Prop} {pc : Nat} {st : List Value} {M : Mem} (C : CXok X K LAY cc own nL ret d) {L : List (Option Value)} {idx : Nat} (hl : Cond.fieldLink own idx "NearWords$Middle" "found" "[I" ∈ wsL_law0) (hd : decode cc pc = .ok (.getfield idx, 3)) (kk : PW X K LAY nL cs Z (pc + 3) L (rV K 30 :: st) M) : PW X K LAY nL cs Z pc L (rV K 29 :: st) M :=
  pw_get0 C lay_29 kc_1 gT_wsX10 3 (by decide) rfl hl hd kk
/-- middle.rules -/
theorem g_29_4 {X : CX} {K : KX} {cc : ByteArray} {own : String} {nL : Nat} {ret : Option FieldType} {d : Nat} {cs : Nat × Nat} {Z : State → Prop} {pc : Nat} {st : List Value} {M : Mem} (C : CXok X K LAY cc own nL ret d) {L : List (Option Value)} {idx : Nat} (hl : Cond.fieldLink own idx "NearWords$Middle" "rules" "LNearWords$Rules;" ∈ wsL_law0) (hd : decode cc pc = .ok (.getfield idx, 3)) (kk : PW X K LAY nL cs Z (pc + 3) L (rV K 1 :: st) M) : PW X K LAY nL cs Z pc L (rV K 29 :: st) M :=
  pw_get0 C lay_29 kc_1 gT_wsX10 4 (by decide) rfl hl hd kk
/-- middle.words -/
theorem g_29_5 {X : CX} {K : KX} {cc : ByteArray} {own : String} {nL : Nat} {ret : Option FieldType} {d : Nat} {cs : Nat × Nat} {Z : State → Prop} {pc : Nat} {st : List Value} {M : Mem} (C : CXok X K LAY cc own nL ret d) {L : List (Option Value)} {idx : Nat} (hl : Cond.fieldLink own idx "NearWords$Middle" "words" "LNearWords$Words;" ∈ wsL_law0) (hd : decode cc pc = .ok (.getfield idx, 3)) (kk : PW X K LAY nL cs Z (pc + 3) L (rV K 6 :: st) M) : PW X K LAY nL cs Z pc L (rV K 29 :: st) M :=
  pw_get0 C lay_29 kc_1 gT_wsX10 5 (by decide) rfl hl hd kk
/-- middle.row -/
theorem g_29_6 {X : CX} {K : KX} {cc : ByteArray} {own : String} {nL : Nat} {ret : Option FieldType} {d : Nat} {cs : Nat × Nat} {Z : State → Prop} {pc : Nat} {st : List Value} {M : Mem} (C : CXok X K LAY cc own nL ret d) {L : List (Option Value)} {idx : Nat} (hl : Cond.fieldLink own idx "NearWords$Middle" "row" "[I" ∈ wsL_law0) (hd : decode cc pc = .ok (.getfield idx, 3)) (kk : PW X K LAY nL cs Z (pc + 3) L (rV K 31 :: st) M) : PW X K LAY nL cs Z pc L (rV K 29 :: st) M :=
  pw_get0 C lay_29 kc_1 gT_wsX10 6 (by decide) rfl hl hd kk
/-- middle.lines -/
theorem g_29_7 {X : CX} {K : KX} {cc : ByteArray} {own : String} {nL : Nat} {ret : Option FieldType} {d : Nat} {cs : Nat × Nat} {Z : State → Prop} {pc : Nat} {st : List Value} {M : Mem} (C : CXok X K LAY cc own nL ret d) {L : List (Option Value)} {idx : Nat} (hl : Cond.fieldLink own idx "NearWords$Middle" "lines" "[I" ∈ wsL_law0) (hd : decode cc pc = .ok (.getfield idx, 3)) (kk : PW X K LAY nL cs Z (pc + 3) L (rV K 32 :: st) M) : PW X K LAY nL cs Z pc L (rV K 29 :: st) M :=
  pw_get0 C lay_29 kc_1 gT_wsX10 7 (by decide) rfl hl hd kk
/-- motif.reach -/
theorem g_33_0 {X : CX} {K : KX} {cc : ByteArray} {own : String} {nL : Nat} {ret : Option FieldType} {d : Nat} {cs : Nat × Nat} {Z : State → Prop} {pc : Nat} {st : List Value} {M : Mem} (C : CXok X K LAY cc own nL ret d) {L : List (Option Value)} {idx : Nat} (hl : Cond.fieldLink own idx "NearWords$Motif" "reach" "[I" ∈ wsL_law0) (hd : decode cc pc = .ok (.getfield idx, 3)) (kk : PW X K LAY nL cs Z (pc + 3) L (rV K 34 :: st) M) : PW X K LAY nL cs Z pc L (rV K 33 :: st) M :=
  pw_get0 C lay_33 kc_2 gT_wsX20 0 (by decide) rfl hl hd kk
/-- motif.found -/
theorem g_33_1 {X : CX} {K : KX} {cc : ByteArray} {own : String} {nL : Nat} {ret : Option FieldType} {d : Nat} {cs : Nat × Nat} {Z : State → Prop} {pc : Nat} {st : List Value} {M : Mem} (C : CXok X K LAY cc own nL ret d) {L : List (Option Value)} {idx : Nat} (hl : Cond.fieldLink own idx "NearWords$Motif" "found" "[I" ∈ wsL_law0) (hd : decode cc pc = .ok (.getfield idx, 3)) (kk : PW X K LAY nL cs Z (pc + 3) L (rV K 35 :: st) M) : PW X K LAY nL cs Z pc L (rV K 33 :: st) M :=
  pw_get0 C lay_33 kc_2 gT_wsX20 1 (by decide) rfl hl hd kk
/-- motif.rules -/
theorem g_33_2 {X : CX} {K : KX} {cc : ByteArray} {own : String} {nL : Nat} {ret : Option FieldType} {d : Nat} {cs : Nat × Nat} {Z : State → Prop} {pc : Nat} {st : List Value} {M : Mem} (C : CXok X K LAY cc own nL ret d) {L : List (Option Value)} {idx : Nat} (hl : Cond.fieldLink own idx "NearWords$Motif" "rules" "LNearWords$Rules;" ∈ wsL_law0) (hd : decode cc pc = .ok (.getfield idx, 3)) (kk : PW X K LAY nL cs Z (pc + 3) L (rV K 1 :: st) M) : PW X K LAY nL cs Z pc L (rV K 33 :: st) M :=
  pw_get0 C lay_33 kc_2 gT_wsX20 2 (by decide) rfl hl hd kk
/-- motif.texts -/
theorem g_33_3 {X : CX} {K : KX} {cc : ByteArray} {own : String} {nL : Nat} {ret : Option FieldType} {d : Nat} {cs : Nat × Nat} {Z : State → Prop} {pc : Nat} {st : List Value} {M : Mem} (C : CXok X K LAY cc own nL ret d) {L : List (Option Value)} {idx : Nat} (hl : Cond.fieldLink own idx "NearWords$Motif" "texts" "LNearWords$Texts;" ∈ wsL_law0) (hd : decode cc pc = .ok (.getfield idx, 3)) (kk : PW X K LAY nL cs Z (pc + 3) L (rV K 9 :: st) M) : PW X K LAY nL cs Z pc L (rV K 33 :: st) M :=
  pw_get0 C lay_33 kc_2 gT_wsX20 3 (by decide) rfl hl hd kk
/-- motif.walk -/
theorem g_33_4 {X : CX} {K : KX} {cc : ByteArray} {own : String} {nL : Nat} {ret : Option FieldType} {d : Nat} {cs : Nat × Nat} {Z : State → Prop} {pc : Nat} {st : List Value} {M : Mem} (C : CXok X K LAY cc own nL ret d) {L : List (Option Value)} {idx : Nat} (hl : Cond.fieldLink own idx "NearWords$Motif" "walk" "LNearWords$Walk;" ∈ wsL_law0) (hd : decode cc pc = .ok (.getfield idx, 3)) (kk : PW X K LAY nL cs Z (pc + 3) L (rV K 37 :: st) M) : PW X K LAY nL cs Z pc L (rV K 33 :: st) M :=
  pw_get0 C lay_33 kc_2 gT_wsX20 4 (by decide) rfl hl hd kk
/-- motif.row -/
theorem g_33_5 {X : CX} {K : KX} {cc : ByteArray} {own : String} {nL : Nat} {ret : Option FieldType} {d : Nat} {cs : Nat × Nat} {Z : State → Prop} {pc : Nat} {st : List Value} {M : Mem} (C : CXok X K LAY cc own nL ret d) {L : List (Option Value)} {idx : Nat} (hl : Cond.fieldLink own idx "NearWords$Motif" "row" "[I" ∈ wsL_law0) (hd : decode cc pc = .ok (.getfield idx, 3)) (kk : PW X K LAY nL cs Z (pc + 3) L (rV K 36 :: st) M) : PW X K LAY nL cs Z pc L (rV K 33 :: st) M :=
  pw_get0 C lay_33 kc_2 gT_wsX20 5 (by decide) rfl hl hd kk
/-- walk2.length -/
theorem g_37_0 {X : CX} {K : KX} {cc : ByteArray} {own : String} {nL : Nat} {ret : Option FieldType} {d : Nat} {cs : Nat × Nat} {Z : State → Prop} {pc : Nat} {st : List Value} {M : Mem} (C : CXok X K LAY cc own nL ret d) {L : List (Option Value)} {idx : Nat} (hl : Cond.fieldLink own idx "NearWords$Walk" "length" "I" ∈ wsL_law0) (hd : decode cc pc = .ok (.getfield idx, 3)) (kk : PW X K LAY nL cs Z (pc + 3) L (iV (M 37 0) :: st) M) : PW X K LAY nL cs Z pc L (rV K 37 :: st) M :=
  pw_get0 C lay_37 kc_8 gT_wsX80 0 (by decide) rfl hl hd kk
theorem p_37_0 {X : CX} {K : KX} {cc : ByteArray} {own : String} {nL : Nat} {ret : Option FieldType} {d : Nat} {cs : Nat × Nat} {Z : State → Prop} {pc : Nat} {st : List Value} {M : Mem} (C : CXok X K LAY cc own nL ret d) {L : List (Option Value)} {idx : Nat} {z : Int} (hl : Cond.fieldLink own idx "NearWords$Walk" "length" "I" ∈ wsL_law0) (hd : decode cc pc = .ok (.putfield idx, 3)) (kk : PW X K LAY nL cs Z (pc + 3) L st (up2 M 37 0 z)) : PW X K LAY nL cs Z pc L (iV z :: rV K 37 :: st) M :=
  pw_put0 C lay_37 kc_8 gT_wsX80 tyX8 tyX8_ok nmX8 0 (by decide) rfl rfl rfl rfl hl hd kk
/-- walk2.targets -/
theorem g_37_1 {X : CX} {K : KX} {cc : ByteArray} {own : String} {nL : Nat} {ret : Option FieldType} {d : Nat} {cs : Nat × Nat} {Z : State → Prop} {pc : Nat} {st : List Value} {M : Mem} (C : CXok X K LAY cc own nL ret d) {L : List (Option Value)} {idx : Nat} (hl : Cond.fieldLink own idx "NearWords$Walk" "targets" "I" ∈ wsL_law0) (hd : decode cc pc = .ok (.getfield idx, 3)) (kk : PW X K LAY nL cs Z (pc + 3) L (iV (M 37 1) :: st) M) : PW X K LAY nL cs Z pc L (rV K 37 :: st) M :=
  pw_get0 C lay_37 kc_8 gT_wsX80 1 (by decide) rfl hl hd kk
theorem p_37_1 {X : CX} {K : KX} {cc : ByteArray} {own : String} {nL : Nat} {ret : Option FieldType} {d : Nat} {cs : Nat × Nat} {Z : State → Prop} {pc : Nat} {st : List Value} {M : Mem} (C : CXok X K LAY cc own nL ret d) {L : List (Option Value)} {idx : Nat} {z : Int} (hl : Cond.fieldLink own idx "NearWords$Walk" "targets" "I" ∈ wsL_law0) (hd : decode cc pc = .ok (.putfield idx, 3)) (kk : PW X K LAY nL cs Z (pc + 3) L st (up2 M 37 1 z)) : PW X K LAY nL cs Z pc L (iV z :: rV K 37 :: st) M :=
  pw_put0 C lay_37 kc_8 gT_wsX80 tyX8 tyX8_ok nmX8 1 (by decide) rfl rfl rfl rfl hl hd kk
/-- walk2.row -/
theorem g_37_2 {X : CX} {K : KX} {cc : ByteArray} {own : String} {nL : Nat} {ret : Option FieldType} {d : Nat} {cs : Nat × Nat} {Z : State → Prop} {pc : Nat} {st : List Value} {M : Mem} (C : CXok X K LAY cc own nL ret d) {L : List (Option Value)} {idx : Nat} (hl : Cond.fieldLink own idx "NearWords$Walk" "row" "[I" ∈ wsL_law0) (hd : decode cc pc = .ok (.getfield idx, 3)) (kk : PW X K LAY nL cs Z (pc + 3) L (rV K 38 :: st) M) : PW X K LAY nL cs Z pc L (rV K 37 :: st) M :=
  pw_get0 C lay_37 kc_8 gT_wsX80 2 (by decide) rfl hl hd kk
/-- walk2.sums -/
theorem g_37_3 {X : CX} {K : KX} {cc : ByteArray} {own : String} {nL : Nat} {ret : Option FieldType} {d : Nat} {cs : Nat × Nat} {Z : State → Prop} {pc : Nat} {st : List Value} {M : Mem} (C : CXok X K LAY cc own nL ret d) {L : List (Option Value)} {idx : Nat} (hl : Cond.fieldLink own idx "NearWords$Walk" "sums" "[I" ∈ wsL_law0) (hd : decode cc pc = .ok (.getfield idx, 3)) (kk : PW X K LAY nL cs Z (pc + 3) L (rV K 39 :: st) M) : PW X K LAY nL cs Z pc L (rV K 37 :: st) M :=
  pw_get0 C lay_37 kc_8 gT_wsX80 3 (by decide) rfl hl hd kk
/-- walk2.width -/
theorem g_37_4 {X : CX} {K : KX} {cc : ByteArray} {own : String} {nL : Nat} {ret : Option FieldType} {d : Nat} {cs : Nat × Nat} {Z : State → Prop} {pc : Nat} {st : List Value} {M : Mem} (C : CXok X K LAY cc own nL ret d) {L : List (Option Value)} {idx : Nat} (hl : Cond.fieldLink own idx "NearWords$Walk" "width" "I" ∈ wsL_law0) (hd : decode cc pc = .ok (.getfield idx, 3)) (kk : PW X K LAY nL cs Z (pc + 3) L (iV (M 37 4) :: st) M) : PW X K LAY nL cs Z pc L (rV K 37 :: st) M :=
  pw_get0 C lay_37 kc_8 gT_wsX80 4 (by decide) rfl hl hd kk
/-- walk2.rules -/
theorem g_37_5 {X : CX} {K : KX} {cc : ByteArray} {own : String} {nL : Nat} {ret : Option FieldType} {d : Nat} {cs : Nat × Nat} {Z : State → Prop} {pc : Nat} {st : List Value} {M : Mem} (C : CXok X K LAY cc own nL ret d) {L : List (Option Value)} {idx : Nat} (hl : Cond.fieldLink own idx "NearWords$Walk" "rules" "LNearWords$Rules;" ∈ wsL_law0) (hd : decode cc pc = .ok (.getfield idx, 3)) (kk : PW X K LAY nL cs Z (pc + 3) L (rV K 1 :: st) M) : PW X K LAY nL cs Z pc L (rV K 37 :: st) M :=
  pw_get0 C lay_37 kc_8 gT_wsX80 5 (by decide) rfl hl hd kk
/-- walk2.aims -/
theorem g_37_6 {X : CX} {K : KX} {cc : ByteArray} {own : String} {nL : Nat} {ret : Option FieldType} {d : Nat} {cs : Nat × Nat} {Z : State → Prop} {pc : Nat} {st : List Value} {M : Mem} (C : CXok X K LAY cc own nL ret d) {L : List (Option Value)} {idx : Nat} (hl : Cond.fieldLink own idx "NearWords$Walk" "aims" "[I" ∈ wsL_law0) (hd : decode cc pc = .ok (.getfield idx, 3)) (kk : PW X K LAY nL cs Z (pc + 3) L (rV K 40 :: st) M) : PW X K LAY nL cs Z pc L (rV K 37 :: st) M :=
  pw_get0 C lay_37 kc_8 gT_wsX80 6 (by decide) rfl hl hd kk
/-- walk2.packed -/
theorem g_37_7 {X : CX} {K : KX} {cc : ByteArray} {own : String} {nL : Nat} {ret : Option FieldType} {d : Nat} {cs : Nat × Nat} {Z : State → Prop} {pc : Nat} {st : List Value} {M : Mem} (C : CXok X K LAY cc own nL ret d) {L : List (Option Value)} {idx : Nat} (hl : Cond.fieldLink own idx "NearWords$Walk" "packed" "[I" ∈ wsL_law0) (hd : decode cc pc = .ok (.getfield idx, 3)) (kk : PW X K LAY nL cs Z (pc + 3) L (rV K 41 :: st) M) : PW X K LAY nL cs Z pc L (rV K 37 :: st) M :=
  pw_get0 C lay_37 kc_8 gT_wsX80 7 (by decide) rfl hl hd kk
/-- walk2.spots -/
theorem g_37_8 {X : CX} {K : KX} {cc : ByteArray} {own : String} {nL : Nat} {ret : Option FieldType} {d : Nat} {cs : Nat × Nat} {Z : State → Prop} {pc : Nat} {st : List Value} {M : Mem} (C : CXok X K LAY cc own nL ret d) {L : List (Option Value)} {idx : Nat} (hl : Cond.fieldLink own idx "NearWords$Walk" "spots" "[I" ∈ wsL_law0) (hd : decode cc pc = .ok (.getfield idx, 3)) (kk : PW X K LAY nL cs Z (pc + 3) L (rV K 42 :: st) M) : PW X K LAY nL cs Z pc L (rV K 37 :: st) M :=
  pw_get0 C lay_37 kc_8 gT_wsX80 8 (by decide) rfl hl hd kk
/-- model.thrown -/
theorem g_43_0 {X : CX} {K : KX} {cc : ByteArray} {own : String} {nL : Nat} {ret : Option FieldType} {d : Nat} {cs : Nat × Nat} {Z : State → Prop} {pc : Nat} {st : List Value} {M : Mem} (C : CXok X K LAY cc own nL ret d) {L : List (Option Value)} {idx : Nat} (hl : Cond.fieldLink own idx "NearWordsModel" "thrown" "I" ∈ wsL_law0) (hd : decode cc pc = .ok (.getfield idx, 3)) (kk : PW X K LAY nL cs Z (pc + 3) L (iV (M 43 0) :: st) M) : PW X K LAY nL cs Z pc L (rV K 43 :: st) M :=
  pw_get0 C lay_43 kc_11 gT_wsX110 0 (by decide) rfl hl hd kk
theorem p_43_0 {X : CX} {K : KX} {cc : ByteArray} {own : String} {nL : Nat} {ret : Option FieldType} {d : Nat} {cs : Nat × Nat} {Z : State → Prop} {pc : Nat} {st : List Value} {M : Mem} (C : CXok X K LAY cc own nL ret d) {L : List (Option Value)} {idx : Nat} {z : Int} (hl : Cond.fieldLink own idx "NearWordsModel" "thrown" "I" ∈ wsL_law0) (hd : decode cc pc = .ok (.putfield idx, 3)) (kk : PW X K LAY nL cs Z (pc + 3) L st (up2 M 43 0 z)) : PW X K LAY nL cs Z pc L (iV z :: rV K 43 :: st) M :=
  pw_put0 C lay_43 kc_11 gT_wsX110 tyX11 tyX11_ok nmX11 0 (by decide) rfl rfl rfl rfl hl hd kk
/-- model.letters -/
theorem g_43_1 {X : CX} {K : KX} {cc : ByteArray} {own : String} {nL : Nat} {ret : Option FieldType} {d : Nat} {cs : Nat × Nat} {Z : State → Prop} {pc : Nat} {st : List Value} {M : Mem} (C : CXok X K LAY cc own nL ret d) {L : List (Option Value)} {idx : Nat} (hl : Cond.fieldLink own idx "NearWordsModel" "letters" "I" ∈ wsL_law0) (hd : decode cc pc = .ok (.getfield idx, 3)) (kk : PW X K LAY nL cs Z (pc + 3) L (iV (M 43 1) :: st) M) : PW X K LAY nL cs Z pc L (rV K 43 :: st) M :=
  pw_get0 C lay_43 kc_11 gT_wsX110 1 (by decide) rfl hl hd kk
theorem p_43_1 {X : CX} {K : KX} {cc : ByteArray} {own : String} {nL : Nat} {ret : Option FieldType} {d : Nat} {cs : Nat × Nat} {Z : State → Prop} {pc : Nat} {st : List Value} {M : Mem} (C : CXok X K LAY cc own nL ret d) {L : List (Option Value)} {idx : Nat} {z : Int} (hl : Cond.fieldLink own idx "NearWordsModel" "letters" "I" ∈ wsL_law0) (hd : decode cc pc = .ok (.putfield idx, 3)) (kk : PW X K LAY nL cs Z (pc + 3) L st (up2 M 43 1 z)) : PW X K LAY nL cs Z pc L (iV z :: rV K 43 :: st) M :=
  pw_put0 C lay_43 kc_11 gT_wsX110 tyX11 tyX11_ok nmX11 1 (by decide) rfl rfl rfl rfl hl hd kk
/-- model.cost -/
theorem g_43_2 {X : CX} {K : KX} {cc : ByteArray} {own : String} {nL : Nat} {ret : Option FieldType} {d : Nat} {cs : Nat × Nat} {Z : State → Prop} {pc : Nat} {st : List Value} {M : Mem} (C : CXok X K LAY cc own nL ret d) {L : List (Option Value)} {idx : Nat} (hl : Cond.fieldLink own idx "NearWordsModel" "cost" "[I" ∈ wsL_law0) (hd : decode cc pc = .ok (.getfield idx, 3)) (kk : PW X K LAY nL cs Z (pc + 3) L (rV K 44 :: st) M) : PW X K LAY nL cs Z pc L (rV K 43 :: st) M :=
  pw_get0 C lay_43 kc_11 gT_wsX110 2 (by decide) rfl hl hd kk
/-- model.swap -/
theorem g_43_3 {X : CX} {K : KX} {cc : ByteArray} {own : String} {nL : Nat} {ret : Option FieldType} {d : Nat} {cs : Nat × Nat} {Z : State → Prop} {pc : Nat} {st : List Value} {M : Mem} (C : CXok X K LAY cc own nL ret d) {L : List (Option Value)} {idx : Nat} (hl : Cond.fieldLink own idx "NearWordsModel" "swap" "I" ∈ wsL_law0) (hd : decode cc pc = .ok (.getfield idx, 3)) (kk : PW X K LAY nL cs Z (pc + 3) L (iV (M 43 3) :: st) M) : PW X K LAY nL cs Z pc L (rV K 43 :: st) M :=
  pw_get0 C lay_43 kc_11 gT_wsX110 3 (by decide) rfl hl hd kk
theorem p_43_3 {X : CX} {K : KX} {cc : ByteArray} {own : String} {nL : Nat} {ret : Option FieldType} {d : Nat} {cs : Nat × Nat} {Z : State → Prop} {pc : Nat} {st : List Value} {M : Mem} (C : CXok X K LAY cc own nL ret d) {L : List (Option Value)} {idx : Nat} {z : Int} (hl : Cond.fieldLink own idx "NearWordsModel" "swap" "I" ∈ wsL_law0) (hd : decode cc pc = .ok (.putfield idx, 3)) (kk : PW X K LAY nL cs Z (pc + 3) L st (up2 M 43 3 z)) : PW X K LAY nL cs Z pc L (iV z :: rV K 43 :: st) M :=
  pw_put0 C lay_43 kc_11 gT_wsX110 tyX11 tyX11_ok nmX11 3 (by decide) rfl rfl rfl rfl hl hd kk
/-- model.drop -/
theorem g_43_4 {X : CX} {K : KX} {cc : ByteArray} {own : String} {nL : Nat} {ret : Option FieldType} {d : Nat} {cs : Nat × Nat} {Z : State → Prop} {pc : Nat} {st : List Value} {M : Mem} (C : CXok X K LAY cc own nL ret d) {L : List (Option Value)} {idx : Nat} (hl : Cond.fieldLink own idx "NearWordsModel" "drop" "I" ∈ wsL_law0) (hd : decode cc pc = .ok (.getfield idx, 3)) (kk : PW X K LAY nL cs Z (pc + 3) L (iV (M 43 4) :: st) M) : PW X K LAY nL cs Z pc L (rV K 43 :: st) M :=
  pw_get0 C lay_43 kc_11 gT_wsX110 4 (by decide) rfl hl hd kk
theorem p_43_4 {X : CX} {K : KX} {cc : ByteArray} {own : String} {nL : Nat} {ret : Option FieldType} {d : Nat} {cs : Nat × Nat} {Z : State → Prop} {pc : Nat} {st : List Value} {M : Mem} (C : CXok X K LAY cc own nL ret d) {L : List (Option Value)} {idx : Nat} {z : Int} (hl : Cond.fieldLink own idx "NearWordsModel" "drop" "I" ∈ wsL_law0) (hd : decode cc pc = .ok (.putfield idx, 3)) (kk : PW X K LAY nL cs Z (pc + 3) L st (up2 M 43 4 z)) : PW X K LAY nL cs Z pc L (iV z :: rV K 43 :: st) M :=
  pw_put0 C lay_43 kc_11 gT_wsX110 tyX11 tyX11_ok nmX11 4 (by decide) rfl rfl rfl rfl hl hd kk
/-- model.gap -/
theorem g_43_5 {X : CX} {K : KX} {cc : ByteArray} {own : String} {nL : Nat} {ret : Option FieldType} {d : Nat} {cs : Nat × Nat} {Z : State → Prop} {pc : Nat} {st : List Value} {M : Mem} (C : CXok X K LAY cc own nL ret d) {L : List (Option Value)} {idx : Nat} (hl : Cond.fieldLink own idx "NearWordsModel" "gap" "I" ∈ wsL_law0) (hd : decode cc pc = .ok (.getfield idx, 3)) (kk : PW X K LAY nL cs Z (pc + 3) L (iV (M 43 5) :: st) M) : PW X K LAY nL cs Z pc L (rV K 43 :: st) M :=
  pw_get0 C lay_43 kc_11 gT_wsX110 5 (by decide) rfl hl hd kk
theorem p_43_5 {X : CX} {K : KX} {cc : ByteArray} {own : String} {nL : Nat} {ret : Option FieldType} {d : Nat} {cs : Nat × Nat} {Z : State → Prop} {pc : Nat} {st : List Value} {M : Mem} (C : CXok X K LAY cc own nL ret d) {L : List (Option Value)} {idx : Nat} {z : Int} (hl : Cond.fieldLink own idx "NearWordsModel" "gap" "I" ∈ wsL_law0) (hd : decode cc pc = .ok (.putfield idx, 3)) (kk : PW X K LAY nL cs Z (pc + 3) L st (up2 M 43 5 z)) : PW X K LAY nL cs Z pc L (iV z :: rV K 43 :: st) M :=
  pw_put0 C lay_43 kc_11 gT_wsX110 tyX11 tyX11_ok nmX11 5 (by decide) rfl rfl rfl rfl hl hd kk
/-- model.words -/
theorem g_43_6 {X : CX} {K : KX} {cc : ByteArray} {own : String} {nL : Nat} {ret : Option FieldType} {d : Nat} {cs : Nat × Nat} {Z : State → Prop} {pc : Nat} {st : List Value} {M : Mem} (C : CXok X K LAY cc own nL ret d) {L : List (Option Value)} {idx : Nat} (hl : Cond.fieldLink own idx "NearWordsModel" "words" "I" ∈ wsL_law0) (hd : decode cc pc = .ok (.getfield idx, 3)) (kk : PW X K LAY nL cs Z (pc + 3) L (iV (M 43 6) :: st) M) : PW X K LAY nL cs Z pc L (rV K 43 :: st) M :=
  pw_get0 C lay_43 kc_11 gT_wsX110 6 (by decide) rfl hl hd kk
theorem p_43_6 {X : CX} {K : KX} {cc : ByteArray} {own : String} {nL : Nat} {ret : Option FieldType} {d : Nat} {cs : Nat × Nat} {Z : State → Prop} {pc : Nat} {st : List Value} {M : Mem} (C : CXok X K LAY cc own nL ret d) {L : List (Option Value)} {idx : Nat} {z : Int} (hl : Cond.fieldLink own idx "NearWordsModel" "words" "I" ∈ wsL_law0) (hd : decode cc pc = .ok (.putfield idx, 3)) (kk : PW X K LAY nL cs Z (pc + 3) L st (up2 M 43 6 z)) : PW X K LAY nL cs Z pc L (iV z :: rV K 43 :: st) M :=
  pw_put0 C lay_43 kc_11 gT_wsX110 tyX11 tyX11_ok nmX11 6 (by decide) rfl rfl rfl rfl hl hd kk
/-- model.length -/
theorem g_43_7 {X : CX} {K : KX} {cc : ByteArray} {own : String} {nL : Nat} {ret : Option FieldType} {d : Nat} {cs : Nat × Nat} {Z : State → Prop} {pc : Nat} {st : List Value} {M : Mem} (C : CXok X K LAY cc own nL ret d) {L : List (Option Value)} {idx : Nat} (hl : Cond.fieldLink own idx "NearWordsModel" "length" "I" ∈ wsL_law0) (hd : decode cc pc = .ok (.getfield idx, 3)) (kk : PW X K LAY nL cs Z (pc + 3) L (iV (M 43 7) :: st) M) : PW X K LAY nL cs Z pc L (rV K 43 :: st) M :=
  pw_get0 C lay_43 kc_11 gT_wsX110 7 (by decide) rfl hl hd kk
theorem p_43_7 {X : CX} {K : KX} {cc : ByteArray} {own : String} {nL : Nat} {ret : Option FieldType} {d : Nat} {cs : Nat × Nat} {Z : State → Prop} {pc : Nat} {st : List Value} {M : Mem} (C : CXok X K LAY cc own nL ret d) {L : List (Option Value)} {idx : Nat} {z : Int} (hl : Cond.fieldLink own idx "NearWordsModel" "length" "I" ∈ wsL_law0) (hd : decode cc pc = .ok (.putfield idx, 3)) (kk : PW X K LAY nL cs Z (pc + 3) L st (up2 M 43 7 z)) : PW X K LAY nL cs Z pc L (iV z :: rV K 43 :: st) M :=
  pw_put0 C lay_43 kc_11 gT_wsX110 tyX11 tyX11_ok nmX11 7 (by decide) rfl rfl rfl rfl hl hd kk
/-- model.word -/
theorem g_43_8 {X : CX} {K : KX} {cc : ByteArray} {own : String} {nL : Nat} {ret : Option FieldType} {d : Nat} {cs : Nat × Nat} {Z : State → Prop} {pc : Nat} {st : List Value} {M : Mem} (C : CXok X K LAY cc own nL ret d) {L : List (Option Value)} {idx : Nat} (hl : Cond.fieldLink own idx "NearWordsModel" "word" "[B" ∈ wsL_law0) (hd : decode cc pc = .ok (.getfield idx, 3)) (kk : PW X K LAY nL cs Z (pc + 3) L (rV K 45 :: st) M) : PW X K LAY nL cs Z pc L (rV K 43 :: st) M :=
  pw_get0 C lay_43 kc_11 gT_wsX110 8 (by decide) rfl hl hd kk
/-- model.part -/
theorem g_43_9 {X : CX} {K : KX} {cc : ByteArray} {own : String} {nL : Nat} {ret : Option FieldType} {d : Nat} {cs : Nat × Nat} {Z : State → Prop} {pc : Nat} {st : List Value} {M : Mem} (C : CXok X K LAY cc own nL ret d) {L : List (Option Value)} {idx : Nat} (hl : Cond.fieldLink own idx "NearWordsModel" "part" "[I" ∈ wsL_law0) (hd : decode cc pc = .ok (.getfield idx, 3)) (kk : PW X K LAY nL cs Z (pc + 3) L (rV K 46 :: st) M) : PW X K LAY nL cs Z pc L (rV K 43 :: st) M :=
  pw_get0 C lay_43 kc_11 gT_wsX110 9 (by decide) rfl hl hd kk
/-- model.texts -/
theorem g_43_10 {X : CX} {K : KX} {cc : ByteArray} {own : String} {nL : Nat} {ret : Option FieldType} {d : Nat} {cs : Nat × Nat} {Z : State → Prop} {pc : Nat} {st : List Value} {M : Mem} (C : CXok X K LAY cc own nL ret d) {L : List (Option Value)} {idx : Nat} (hl : Cond.fieldLink own idx "NearWordsModel" "texts" "I" ∈ wsL_law0) (hd : decode cc pc = .ok (.getfield idx, 3)) (kk : PW X K LAY nL cs Z (pc + 3) L (iV (M 43 10) :: st) M) : PW X K LAY nL cs Z pc L (rV K 43 :: st) M :=
  pw_get0 C lay_43 kc_11 gT_wsX110 10 (by decide) rfl hl hd kk
theorem p_43_10 {X : CX} {K : KX} {cc : ByteArray} {own : String} {nL : Nat} {ret : Option FieldType} {d : Nat} {cs : Nat × Nat} {Z : State → Prop} {pc : Nat} {st : List Value} {M : Mem} (C : CXok X K LAY cc own nL ret d) {L : List (Option Value)} {idx : Nat} {z : Int} (hl : Cond.fieldLink own idx "NearWordsModel" "texts" "I" ∈ wsL_law0) (hd : decode cc pc = .ok (.putfield idx, 3)) (kk : PW X K LAY nL cs Z (pc + 3) L st (up2 M 43 10 z)) : PW X K LAY nL cs Z pc L (iV z :: rV K 43 :: st) M :=
  pw_put0 C lay_43 kc_11 gT_wsX110 tyX11 tyX11_ok nmX11 10 (by decide) rfl rfl rfl rfl hl hd kk
/-- model.text -/
theorem g_43_11 {X : CX} {K : KX} {cc : ByteArray} {own : String} {nL : Nat} {ret : Option FieldType} {d : Nat} {cs : Nat × Nat} {Z : State → Prop} {pc : Nat} {st : List Value} {M : Mem} (C : CXok X K LAY cc own nL ret d) {L : List (Option Value)} {idx : Nat} (hl : Cond.fieldLink own idx "NearWordsModel" "text" "[B" ∈ wsL_law0) (hd : decode cc pc = .ok (.getfield idx, 3)) (kk : PW X K LAY nL cs Z (pc + 3) L (rV K 47 :: st) M) : PW X K LAY nL cs Z pc L (rV K 43 :: st) M :=
  pw_get0 C lay_43 kc_11 gT_wsX110 11 (by decide) rfl hl hd kk
/-- model.textSize -/
theorem g_43_12 {X : CX} {K : KX} {cc : ByteArray} {own : String} {nL : Nat} {ret : Option FieldType} {d : Nat} {cs : Nat × Nat} {Z : State → Prop} {pc : Nat} {st : List Value} {M : Mem} (C : CXok X K LAY cc own nL ret d) {L : List (Option Value)} {idx : Nat} (hl : Cond.fieldLink own idx "NearWordsModel" "textSize" "[I" ∈ wsL_law0) (hd : decode cc pc = .ok (.getfield idx, 3)) (kk : PW X K LAY nL cs Z (pc + 3) L (rV K 48 :: st) M) : PW X K LAY nL cs Z pc L (rV K 43 :: st) M :=
  pw_get0 C lay_43 kc_11 gT_wsX110 12 (by decide) rfl hl hd kk
/-- model.isKnown -/
theorem g_43_13 {X : CX} {K : KX} {cc : ByteArray} {own : String} {nL : Nat} {ret : Option FieldType} {d : Nat} {cs : Nat × Nat} {Z : State → Prop} {pc : Nat} {st : List Value} {M : Mem} (C : CXok X K LAY cc own nL ret d) {L : List (Option Value)} {idx : Nat} (hl : Cond.fieldLink own idx "NearWordsModel" "isKnown" "Z" ∈ wsL_law0) (hd : decode cc pc = .ok (.getfield idx, 3)) (kk : PW X K LAY nL cs Z (pc + 3) L (iV (M 43 13) :: st) M) : PW X K LAY nL cs Z pc L (rV K 43 :: st) M :=
  pw_get0 C lay_43 kc_11 gT_wsX110 13 (by decide) rfl hl hd kk
theorem p_43_13 {X : CX} {K : KX} {cc : ByteArray} {own : String} {nL : Nat} {ret : Option FieldType} {d : Nat} {cs : Nat × Nat} {Z : State → Prop} {pc : Nat} {st : List Value} {M : Mem} (C : CXok X K LAY cc own nL ret d) {L : List (Option Value)} {idx : Nat} {z : Int} (hz : z = 0 ∨ z = 1) (hl : Cond.fieldLink own idx "NearWordsModel" "isKnown" "Z" ∈ wsL_law0) (hd : decode cc pc = .ok (.putfield idx, 3)) (kk : PW X K LAY nL cs Z (pc + 3) L st (up2 M 43 13 z)) : PW X K LAY nL cs Z pc L (iV z :: rV K 43 :: st) M :=
  pw_put0 C lay_43 kc_11 gT_wsX110 tyX11 tyX11_ok nmX11 13 (by decide) rfl rfl (by rcases hz with rfl | rfl <;> decide) (by rcases hz with rfl | rfl <;> decide) hl hd kk
/-- model.isMiddleKnown -/
theorem g_43_14 {X : CX} {K : KX} {cc : ByteArray} {own : String} {nL : Nat} {ret : Option FieldType} {d : Nat} {cs : Nat × Nat} {Z : State → Prop} {pc : Nat} {st : List Value} {M : Mem} (C : CXok X K LAY cc own nL ret d) {L : List (Option Value)} {idx : Nat} (hl : Cond.fieldLink own idx "NearWordsModel" "isMiddleKnown" "Z" ∈ wsL_law0) (hd : decode cc pc = .ok (.getfield idx, 3)) (kk : PW X K LAY nL cs Z (pc + 3) L (iV (M 43 14) :: st) M) : PW X K LAY nL cs Z pc L (rV K 43 :: st) M :=
  pw_get0 C lay_43 kc_11 gT_wsX110 14 (by decide) rfl hl hd kk
theorem p_43_14 {X : CX} {K : KX} {cc : ByteArray} {own : String} {nL : Nat} {ret : Option FieldType} {d : Nat} {cs : Nat × Nat} {Z : State → Prop} {pc : Nat} {st : List Value} {M : Mem} (C : CXok X K LAY cc own nL ret d) {L : List (Option Value)} {idx : Nat} {z : Int} (hz : z = 0 ∨ z = 1) (hl : Cond.fieldLink own idx "NearWordsModel" "isMiddleKnown" "Z" ∈ wsL_law0) (hd : decode cc pc = .ok (.putfield idx, 3)) (kk : PW X K LAY nL cs Z (pc + 3) L st (up2 M 43 14 z)) : PW X K LAY nL cs Z pc L (iV z :: rV K 43 :: st) M :=
  pw_put0 C lay_43 kc_11 gT_wsX110 tyX11 tyX11_ok nmX11 14 (by decide) rfl rfl (by rcases hz with rfl | rfl <;> decide) (by rcases hz with rfl | rfl <;> decide) hl hd kk
/-- model.motifKnown -/
theorem g_43_15 {X : CX} {K : KX} {cc : ByteArray} {own : String} {nL : Nat} {ret : Option FieldType} {d : Nat} {cs : Nat × Nat} {Z : State → Prop} {pc : Nat} {st : List Value} {M : Mem} (C : CXok X K LAY cc own nL ret d) {L : List (Option Value)} {idx : Nat} (hl : Cond.fieldLink own idx "NearWordsModel" "motifKnown" "I" ∈ wsL_law0) (hd : decode cc pc = .ok (.getfield idx, 3)) (kk : PW X K LAY nL cs Z (pc + 3) L (iV (M 43 15) :: st) M) : PW X K LAY nL cs Z pc L (rV K 43 :: st) M :=
  pw_get0 C lay_43 kc_11 gT_wsX110 15 (by decide) rfl hl hd kk
theorem p_43_15 {X : CX} {K : KX} {cc : ByteArray} {own : String} {nL : Nat} {ret : Option FieldType} {d : Nat} {cs : Nat × Nat} {Z : State → Prop} {pc : Nat} {st : List Value} {M : Mem} (C : CXok X K LAY cc own nL ret d) {L : List (Option Value)} {idx : Nat} {z : Int} (hl : Cond.fieldLink own idx "NearWordsModel" "motifKnown" "I" ∈ wsL_law0) (hd : decode cc pc = .ok (.putfield idx, 3)) (kk : PW X K LAY nL cs Z (pc + 3) L st (up2 M 43 15 z)) : PW X K LAY nL cs Z pc L (iV z :: rV K 43 :: st) M :=
  pw_put0 C lay_43 kc_11 gT_wsX110 tyX11 tyX11_ok nmX11 15 (by decide) rfl rfl rfl rfl hl hd kk
/-- model.tape -/
theorem g_43_16 {X : CX} {K : KX} {cc : ByteArray} {own : String} {nL : Nat} {ret : Option FieldType} {d : Nat} {cs : Nat × Nat} {Z : State → Prop} {pc : Nat} {st : List Value} {M : Mem} (C : CXok X K LAY cc own nL ret d) {L : List (Option Value)} {idx : Nat} (hl : Cond.fieldLink own idx "NearWordsModel" "tape" "[B" ∈ wsL_law0) (hd : decode cc pc = .ok (.getfield idx, 3)) (kk : PW X K LAY nL cs Z (pc + 3) L (rV K 49 :: st) M) : PW X K LAY nL cs Z pc L (rV K 43 :: st) M :=
  pw_get0 C lay_43 kc_11 gT_wsX110 16 (by decide) rfl hl hd kk
/-- model.taped -/
theorem g_43_17 {X : CX} {K : KX} {cc : ByteArray} {own : String} {nL : Nat} {ret : Option FieldType} {d : Nat} {cs : Nat × Nat} {Z : State → Prop} {pc : Nat} {st : List Value} {M : Mem} (C : CXok X K LAY cc own nL ret d) {L : List (Option Value)} {idx : Nat} (hl : Cond.fieldLink own idx "NearWordsModel" "taped" "I" ∈ wsL_law0) (hd : decode cc pc = .ok (.getfield idx, 3)) (kk : PW X K LAY nL cs Z (pc + 3) L (iV (M 43 17) :: st) M) : PW X K LAY nL cs Z pc L (rV K 43 :: st) M :=
  pw_get0 C lay_43 kc_11 gT_wsX110 17 (by decide) rfl hl hd kk
theorem p_43_17 {X : CX} {K : KX} {cc : ByteArray} {own : String} {nL : Nat} {ret : Option FieldType} {d : Nat} {cs : Nat × Nat} {Z : State → Prop} {pc : Nat} {st : List Value} {M : Mem} (C : CXok X K LAY cc own nL ret d) {L : List (Option Value)} {idx : Nat} {z : Int} (hl : Cond.fieldLink own idx "NearWordsModel" "taped" "I" ∈ wsL_law0) (hd : decode cc pc = .ok (.putfield idx, 3)) (kk : PW X K LAY nL cs Z (pc + 3) L st (up2 M 43 17 z)) : PW X K LAY nL cs Z pc L (iV z :: rV K 43 :: st) M :=
  pw_put0 C lay_43 kc_11 gT_wsX110 tyX11 tyX11_ok nmX11 17 (by decide) rfl rfl rfl rfl hl hd kk
/-- model.told -/
theorem g_43_18 {X : CX} {K : KX} {cc : ByteArray} {own : String} {nL : Nat} {ret : Option FieldType} {d : Nat} {cs : Nat × Nat} {Z : State → Prop} {pc : Nat} {st : List Value} {M : Mem} (C : CXok X K LAY cc own nL ret d) {L : List (Option Value)} {idx : Nat} (hl : Cond.fieldLink own idx "NearWordsModel" "told" "[B" ∈ wsL_law0) (hd : decode cc pc = .ok (.getfield idx, 3)) (kk : PW X K LAY nL cs Z (pc + 3) L (rV K 50 :: st) M) : PW X K LAY nL cs Z pc L (rV K 43 :: st) M :=
  pw_get0 C lay_43 kc_11 gT_wsX110 18 (by decide) rfl hl hd kk
/-- model.toldSize -/
theorem g_43_19 {X : CX} {K : KX} {cc : ByteArray} {own : String} {nL : Nat} {ret : Option FieldType} {d : Nat} {cs : Nat × Nat} {Z : State → Prop} {pc : Nat} {st : List Value} {M : Mem} (C : CXok X K LAY cc own nL ret d) {L : List (Option Value)} {idx : Nat} (hl : Cond.fieldLink own idx "NearWordsModel" "toldSize" "I" ∈ wsL_law0) (hd : decode cc pc = .ok (.getfield idx, 3)) (kk : PW X K LAY nL cs Z (pc + 3) L (iV (M 43 19) :: st) M) : PW X K LAY nL cs Z pc L (rV K 43 :: st) M :=
  pw_get0 C lay_43 kc_11 gT_wsX110 19 (by decide) rfl hl hd kk
theorem p_43_19 {X : CX} {K : KX} {cc : ByteArray} {own : String} {nL : Nat} {ret : Option FieldType} {d : Nat} {cs : Nat × Nat} {Z : State → Prop} {pc : Nat} {st : List Value} {M : Mem} (C : CXok X K LAY cc own nL ret d) {L : List (Option Value)} {idx : Nat} {z : Int} (hl : Cond.fieldLink own idx "NearWordsModel" "toldSize" "I" ∈ wsL_law0) (hd : decode cc pc = .ok (.putfield idx, 3)) (kk : PW X K LAY nL cs Z (pc + 3) L st (up2 M 43 19 z)) : PW X K LAY nL cs Z pc L (iV z :: rV K 43 :: st) M :=
  pw_put0 C lay_43 kc_11 gT_wsX110 tyX11 tyX11_ok nmX11 19 (by decide) rfl rfl rfl rfl hl hd kk
/-- model.far -/
theorem g_43_20 {X : CX} {K : KX} {cc : ByteArray} {own : String} {nL : Nat} {ret : Option FieldType} {d : Nat} {cs : Nat × Nat} {Z : State → Prop} {pc : Nat} {st : List Value} {M : Mem} (C : CXok X K LAY cc own nL ret d) {L : List (Option Value)} {idx : Nat} (hl : Cond.fieldLink own idx "NearWordsModel" "far" "[I" ∈ wsL_law0) (hd : decode cc pc = .ok (.getfield idx, 3)) (kk : PW X K LAY nL cs Z (pc + 3) L (rV K 51 :: st) M) : PW X K LAY nL cs Z pc L (rV K 43 :: st) M :=
  pw_get0 C lay_43 kc_11 gT_wsX110 20 (by decide) rfl hl hd kk
/-- model.apart -/
theorem g_43_21 {X : CX} {K : KX} {cc : ByteArray} {own : String} {nL : Nat} {ret : Option FieldType} {d : Nat} {cs : Nat × Nat} {Z : State → Prop} {pc : Nat} {st : List Value} {M : Mem} (C : CXok X K LAY cc own nL ret d) {L : List (Option Value)} {idx : Nat} (hl : Cond.fieldLink own idx "NearWordsModel" "apart" "[B" ∈ wsL_law0) (hd : decode cc pc = .ok (.getfield idx, 3)) (kk : PW X K LAY nL cs Z (pc + 3) L (rV K 52 :: st) M) : PW X K LAY nL cs Z pc L (rV K 43 :: st) M :=
  pw_get0 C lay_43 kc_11 gT_wsX110 21 (by decide) rfl hl hd kk
/-- model.row -/
theorem g_43_22 {X : CX} {K : KX} {cc : ByteArray} {own : String} {nL : Nat} {ret : Option FieldType} {d : Nat} {cs : Nat × Nat} {Z : State → Prop} {pc : Nat} {st : List Value} {M : Mem} (C : CXok X K LAY cc own nL ret d) {L : List (Option Value)} {idx : Nat} (hl : Cond.fieldLink own idx "NearWordsModel" "row" "[B" ∈ wsL_law0) (hd : decode cc pc = .ok (.getfield idx, 3)) (kk : PW X K LAY nL cs Z (pc + 3) L (rV K 53 :: st) M) : PW X K LAY nL cs Z pc L (rV K 43 :: st) M :=
  pw_get0 C lay_43 kc_11 gT_wsX110 22 (by decide) rfl hl hd kk
/-- model.isHeld -/
theorem g_43_23 {X : CX} {K : KX} {cc : ByteArray} {own : String} {nL : Nat} {ret : Option FieldType} {d : Nat} {cs : Nat × Nat} {Z : State → Prop} {pc : Nat} {st : List Value} {M : Mem} (C : CXok X K LAY cc own nL ret d) {L : List (Option Value)} {idx : Nat} (hl : Cond.fieldLink own idx "NearWordsModel" "isHeld" "[Z" ∈ wsL_law0) (hd : decode cc pc = .ok (.getfield idx, 3)) (kk : PW X K LAY nL cs Z (pc + 3) L (rV K 54 :: st) M) : PW X K LAY nL cs Z pc L (rV K 43 :: st) M :=
  pw_get0 C lay_43 kc_11 gT_wsX110 23 (by decide) rfl hl hd kk
/-- model.sets -/
theorem g_43_24 {X : CX} {K : KX} {cc : ByteArray} {own : String} {nL : Nat} {ret : Option FieldType} {d : Nat} {cs : Nat × Nat} {Z : State → Prop} {pc : Nat} {st : List Value} {M : Mem} (C : CXok X K LAY cc own nL ret d) {L : List (Option Value)} {idx : Nat} (hl : Cond.fieldLink own idx "NearWordsModel" "sets" "[I" ∈ wsL_law0) (hd : decode cc pc = .ok (.getfield idx, 3)) (kk : PW X K LAY nL cs Z (pc + 3) L (rV K 55 :: st) M) : PW X K LAY nL cs Z pc L (rV K 43 :: st) M :=
  pw_get0 C lay_43 kc_11 gT_wsX110 24 (by decide) rfl hl hd kk
/-- model.sameSums -/
theorem g_43_25 {X : CX} {K : KX} {cc : ByteArray} {own : String} {nL : Nat} {ret : Option FieldType} {d : Nat} {cs : Nat × Nat} {Z : State → Prop} {pc : Nat} {st : List Value} {M : Mem} (C : CXok X K LAY cc own nL ret d) {L : List (Option Value)} {idx : Nat} (hl : Cond.fieldLink own idx "NearWordsModel" "sameSums" "I" ∈ wsL_law0) (hd : decode cc pc = .ok (.getfield idx, 3)) (kk : PW X K LAY nL cs Z (pc + 3) L (iV (M 43 25) :: st) M) : PW X K LAY nL cs Z pc L (rV K 43 :: st) M :=
  pw_get0 C lay_43 kc_11 gT_wsX110 25 (by decide) rfl hl hd kk
theorem p_43_25 {X : CX} {K : KX} {cc : ByteArray} {own : String} {nL : Nat} {ret : Option FieldType} {d : Nat} {cs : Nat × Nat} {Z : State → Prop} {pc : Nat} {st : List Value} {M : Mem} (C : CXok X K LAY cc own nL ret d) {L : List (Option Value)} {idx : Nat} {z : Int} (hl : Cond.fieldLink own idx "NearWordsModel" "sameSums" "I" ∈ wsL_law0) (hd : decode cc pc = .ok (.putfield idx, 3)) (kk : PW X K LAY nL cs Z (pc + 3) L st (up2 M 43 25 z)) : PW X K LAY nL cs Z pc L (iV z :: rV K 43 :: st) M :=
  pw_put0 C lay_43 kc_11 gT_wsX110 tyX11 tyX11_ok nmX11 25 (by decide) rfl rfl rfl rfl hl hd kk
/-- model.table -/
theorem g_43_26 {X : CX} {K : KX} {cc : ByteArray} {own : String} {nL : Nat} {ret : Option FieldType} {d : Nat} {cs : Nat × Nat} {Z : State → Prop} {pc : Nat} {st : List Value} {M : Mem} (C : CXok X K LAY cc own nL ret d) {L : List (Option Value)} {idx : Nat} (hl : Cond.fieldLink own idx "NearWordsModel" "table" "[I" ∈ wsL_law0) (hd : decode cc pc = .ok (.getfield idx, 3)) (kk : PW X K LAY nL cs Z (pc + 3) L (rV K 56 :: st) M) : PW X K LAY nL cs Z pc L (rV K 43 :: st) M :=
  pw_get0 C lay_43 kc_11 gT_wsX110 26 (by decide) rfl hl hd kk
/-- model.line -/
theorem g_43_27 {X : CX} {K : KX} {cc : ByteArray} {own : String} {nL : Nat} {ret : Option FieldType} {d : Nat} {cs : Nat × Nat} {Z : State → Prop} {pc : Nat} {st : List Value} {M : Mem} (C : CXok X K LAY cc own nL ret d) {L : List (Option Value)} {idx : Nat} (hl : Cond.fieldLink own idx "NearWordsModel" "line" "[I" ∈ wsL_law0) (hd : decode cc pc = .ok (.getfield idx, 3)) (kk : PW X K LAY nL cs Z (pc + 3) L (rV K 57 :: st) M) : PW X K LAY nL cs Z pc L (rV K 43 :: st) M :=
  pw_get0 C lay_43 kc_11 gT_wsX110 27 (by decide) rfl hl hd kk
/-- model.middle -/
theorem g_43_28 {X : CX} {K : KX} {cc : ByteArray} {own : String} {nL : Nat} {ret : Option FieldType} {d : Nat} {cs : Nat × Nat} {Z : State → Prop} {pc : Nat} {st : List Value} {M : Mem} (C : CXok X K LAY cc own nL ret d) {L : List (Option Value)} {idx : Nat} (hl : Cond.fieldLink own idx "NearWordsModel" "middle" "[B" ∈ wsL_law0) (hd : decode cc pc = .ok (.getfield idx, 3)) (kk : PW X K LAY nL cs Z (pc + 3) L (rV K 58 :: st) M) : PW X K LAY nL cs Z pc L (rV K 43 :: st) M :=
  pw_get0 C lay_43 kc_11 gT_wsX110 28 (by decide) rfl hl hd kk
/-- model.middleSize -/
theorem g_43_29 {X : CX} {K : KX} {cc : ByteArray} {own : String} {nL : Nat} {ret : Option FieldType} {d : Nat} {cs : Nat × Nat} {Z : State → Prop} {pc : Nat} {st : List Value} {M : Mem} (C : CXok X K LAY cc own nL ret d) {L : List (Option Value)} {idx : Nat} (hl : Cond.fieldLink own idx "NearWordsModel" "middleSize" "I" ∈ wsL_law0) (hd : decode cc pc = .ok (.getfield idx, 3)) (kk : PW X K LAY nL cs Z (pc + 3) L (iV (M 43 29) :: st) M) : PW X K LAY nL cs Z pc L (rV K 43 :: st) M :=
  pw_get0 C lay_43 kc_11 gT_wsX110 29 (by decide) rfl hl hd kk
theorem p_43_29 {X : CX} {K : KX} {cc : ByteArray} {own : String} {nL : Nat} {ret : Option FieldType} {d : Nat} {cs : Nat × Nat} {Z : State → Prop} {pc : Nat} {st : List Value} {M : Mem} (C : CXok X K LAY cc own nL ret d) {L : List (Option Value)} {idx : Nat} {z : Int} (hl : Cond.fieldLink own idx "NearWordsModel" "middleSize" "I" ∈ wsL_law0) (hd : decode cc pc = .ok (.putfield idx, 3)) (kk : PW X K LAY nL cs Z (pc + 3) L st (up2 M 43 29 z)) : PW X K LAY nL cs Z pc L (iV z :: rV K 43 :: st) M :=
  pw_put0 C lay_43 kc_11 gT_wsX110 tyX11 tyX11_ok nmX11 29 (by decide) rfl rfl rfl rfl hl hd kk
/-- model.middleSum -/
theorem g_43_30 {X : CX} {K : KX} {cc : ByteArray} {own : String} {nL : Nat} {ret : Option FieldType} {d : Nat} {cs : Nat × Nat} {Z : State → Prop} {pc : Nat} {st : List Value} {M : Mem} (C : CXok X K LAY cc own nL ret d) {L : List (Option Value)} {idx : Nat} (hl : Cond.fieldLink own idx "NearWordsModel" "middleSum" "I" ∈ wsL_law0) (hd : decode cc pc = .ok (.getfield idx, 3)) (kk : PW X K LAY nL cs Z (pc + 3) L (iV (M 43 30) :: st) M) : PW X K LAY nL cs Z pc L (rV K 43 :: st) M :=
  pw_get0 C lay_43 kc_11 gT_wsX110 30 (by decide) rfl hl hd kk
theorem p_43_30 {X : CX} {K : KX} {cc : ByteArray} {own : String} {nL : Nat} {ret : Option FieldType} {d : Nat} {cs : Nat × Nat} {Z : State → Prop} {pc : Nat} {st : List Value} {M : Mem} (C : CXok X K LAY cc own nL ret d) {L : List (Option Value)} {idx : Nat} {z : Int} (hl : Cond.fieldLink own idx "NearWordsModel" "middleSum" "I" ∈ wsL_law0) (hd : decode cc pc = .ok (.putfield idx, 3)) (kk : PW X K LAY nL cs Z (pc + 3) L st (up2 M 43 30 z)) : PW X K LAY nL cs Z pc L (iV z :: rV K 43 :: st) M :=
  pw_put0 C lay_43 kc_11 gT_wsX110 tyX11 tyX11_ok nmX11 30 (by decide) rfl rfl rfl rfl hl hd kk
/-- model.tried -/
theorem g_43_31 {X : CX} {K : KX} {cc : ByteArray} {own : String} {nL : Nat} {ret : Option FieldType} {d : Nat} {cs : Nat × Nat} {Z : State → Prop} {pc : Nat} {st : List Value} {M : Mem} (C : CXok X K LAY cc own nL ret d) {L : List (Option Value)} {idx : Nat} (hl : Cond.fieldLink own idx "NearWordsModel" "tried" "[B" ∈ wsL_law0) (hd : decode cc pc = .ok (.getfield idx, 3)) (kk : PW X K LAY nL cs Z (pc + 3) L (rV K 59 :: st) M) : PW X K LAY nL cs Z pc L (rV K 43 :: st) M :=
  pw_get0 C lay_43 kc_11 gT_wsX110 31 (by decide) rfl hl hd kk
/-- model.motifRow -/
theorem g_43_32 {X : CX} {K : KX} {cc : ByteArray} {own : String} {nL : Nat} {ret : Option FieldType} {d : Nat} {cs : Nat × Nat} {Z : State → Prop} {pc : Nat} {st : List Value} {M : Mem} (C : CXok X K LAY cc own nL ret d) {L : List (Option Value)} {idx : Nat} (hl : Cond.fieldLink own idx "NearWordsModel" "motifRow" "I" ∈ wsL_law0) (hd : decode cc pc = .ok (.getfield idx, 3)) (kk : PW X K LAY nL cs Z (pc + 3) L (iV (M 43 32) :: st) M) : PW X K LAY nL cs Z pc L (rV K 43 :: st) M :=
  pw_get0 C lay_43 kc_11 gT_wsX110 32 (by decide) rfl hl hd kk
theorem p_43_32 {X : CX} {K : KX} {cc : ByteArray} {own : String} {nL : Nat} {ret : Option FieldType} {d : Nat} {cs : Nat × Nat} {Z : State → Prop} {pc : Nat} {st : List Value} {M : Mem} (C : CXok X K LAY cc own nL ret d) {L : List (Option Value)} {idx : Nat} {z : Int} (hl : Cond.fieldLink own idx "NearWordsModel" "motifRow" "I" ∈ wsL_law0) (hd : decode cc pc = .ok (.putfield idx, 3)) (kk : PW X K LAY nL cs Z (pc + 3) L st (up2 M 43 32 z)) : PW X K LAY nL cs Z pc L (iV z :: rV K 43 :: st) M :=
  pw_put0 C lay_43 kc_11 gT_wsX110 tyX11 tyX11_ok nmX11 32 (by decide) rfl rfl rfl rfl hl hd kk
/-- model.motifFar -/
theorem g_43_33 {X : CX} {K : KX} {cc : ByteArray} {own : String} {nL : Nat} {ret : Option FieldType} {d : Nat} {cs : Nat × Nat} {Z : State → Prop} {pc : Nat} {st : List Value} {M : Mem} (C : CXok X K LAY cc own nL ret d) {L : List (Option Value)} {idx : Nat} (hl : Cond.fieldLink own idx "NearWordsModel" "motifFar" "I" ∈ wsL_law0) (hd : decode cc pc = .ok (.getfield idx, 3)) (kk : PW X K LAY nL cs Z (pc + 3) L (iV (M 43 33) :: st) M) : PW X K LAY nL cs Z pc L (rV K 43 :: st) M :=
  pw_get0 C lay_43 kc_11 gT_wsX110 33 (by decide) rfl hl hd kk
theorem p_43_33 {X : CX} {K : KX} {cc : ByteArray} {own : String} {nL : Nat} {ret : Option FieldType} {d : Nat} {cs : Nat × Nat} {Z : State → Prop} {pc : Nat} {st : List Value} {M : Mem} (C : CXok X K LAY cc own nL ret d) {L : List (Option Value)} {idx : Nat} {z : Int} (hl : Cond.fieldLink own idx "NearWordsModel" "motifFar" "I" ∈ wsL_law0) (hd : decode cc pc = .ok (.putfield idx, 3)) (kk : PW X K LAY nL cs Z (pc + 3) L st (up2 M 43 33 z)) : PW X K LAY nL cs Z pc L (iV z :: rV K 43 :: st) M :=
  pw_put0 C lay_43 kc_11 gT_wsX110 tyX11 tyX11_ok nmX11 33 (by decide) rfl rfl rfl rfl hl hd kk
theorem cb_J6_bitCount_0f7a4 : CBS yJ6_bitCount_0f7a4 cJ6_bitCount_0f7a4 1 (some .int) 1 := ⟨st_yJ6_bitCount_0f7a4, in_RJ6, cd_yJ6_bitCount_0f7a4, ⟨by decide +kernel, by decide +kernel, by decide +kernel⟩, by decide⟩
theorem cb_X0_aimAtAll : CB yX0_aimAtAll cX0_aimAtAll 3 none 1 := ⟨im_yX0_aimAtAll, se_yX0_aimAtAll_RX0, in_RX0, cd_yX0_aimAtAll, ⟨by decide +kernel, by decide +kernel, by decide +kernel⟩, by decide⟩
theorem cb_X0_begin : CB yX0_begin cX0_begin 1 (some .int) 0 := ⟨im_yX0_begin, se_yX0_begin_RX0, in_RX0, cd_yX0_begin, ⟨by decide +kernel, by decide +kernel, by decide +kernel⟩, by decide⟩
theorem cb_X0_furtherThan : CB yX0_furtherThan cX0_furtherThan 5 (some .int) 2 := ⟨im_yX0_furtherThan, se_yX0_furtherThan_RX0, in_RX0, cd_yX0_furtherThan, ⟨by decide +kernel, by decide +kernel, by decide +kernel⟩, by decide⟩
theorem cb_X0_isFarEnough : CB yX0_isFarEnough cX0_isFarEnough 3 (some .boolean) 0 := ⟨im_yX0_isFarEnough, se_yX0_isFarEnough_RX0, in_RX0, cd_yX0_isFarEnough, ⟨by decide +kernel, by decide +kernel, by decide +kernel⟩, by decide⟩
theorem cb_X10_apart : CB yX10_apart cX10_apart 3 (some .int) 2 := ⟨im_yX10_apart, se_yX10_apart_RX10, in_RX10, cd_yX10_apart, ⟨by decide +kernel, by decide +kernel, by decide +kernel⟩, by decide⟩
theorem cb_X10_asksWithin : CB yX10_asksWithin cX10_asksWithin 2 (some .boolean) 1 := ⟨im_yX10_asksWithin, se_yX10_asksWithin_RX10, in_RX10, cd_yX10_asksWithin, ⟨by decide +kernel, by decide +kernel, by decide +kernel⟩, by decide⟩
theorem cb_X10_centre : CB yX10_centre cX10_centre 1 (some .int) 0 := ⟨im_yX10_centre, se_yX10_centre_RX10, in_RX10, cd_yX10_centre, ⟨by decide +kernel, by decide +kernel, by decide +kernel⟩, by decide⟩
theorem cb_X10_centreAt : CB yX10_centreAt cX10_centreAt 2 (some .int) 1 := ⟨im_yX10_centreAt, se_yX10_centreAt_RX10, in_RX10, cd_yX10_centreAt, ⟨by decide +kernel, by decide +kernel, by decide +kernel⟩, by decide⟩
theorem cb_X10_centres : CB yX10_centres cX10_centres 3 (some .int) 1 := ⟨im_yX10_centres, se_yX10_centres_RX10, in_RX10, cd_yX10_centres, ⟨by decide +kernel, by decide +kernel, by decide +kernel⟩, by decide⟩
theorem cb_X10_core : CB yX10_core cX10_core 3 (some .int) 1 := ⟨im_yX10_core, se_yX10_core_RX10, in_RX10, cd_yX10_core, ⟨by decide +kernel, by decide +kernel, by decide +kernel⟩, by decide⟩
theorem cb_X10_coreSet : CB yX10_coreSet cX10_coreSet 2 (some .int) 1 := ⟨im_yX10_coreSet, se_yX10_coreSet_RX10, in_RX10, cd_yX10_coreSet, ⟨by decide +kernel, by decide +kernel, by decide +kernel⟩, by decide⟩
theorem cb_X10_cost : CB yX10_cost cX10_cost 4 (some .boolean) 3 := ⟨im_yX10_cost, se_yX10_cost_RX10, in_RX10, cd_yX10_cost, ⟨by decide +kernel, by decide +kernel, by decide +kernel⟩, by decide⟩
theorem cb_X10_count : CB yX10_count cX10_count 2 (some .int) 1 := ⟨im_yX10_count, se_yX10_count_RX10, in_RX10, cd_yX10_count, ⟨by decide +kernel, by decide +kernel, by decide +kernel⟩, by decide⟩
theorem cb_X10_cover : CB yX10_cover cX10_cover 2 (some .int) 1 := ⟨im_yX10_cover, se_yX10_cover_RX10, in_RX10, cd_yX10_cover, ⟨by decide +kernel, by decide +kernel, by decide +kernel⟩, by decide⟩
theorem cb_X10_drop : CB yX10_drop cX10_drop 2 (some .boolean) 1 := ⟨im_yX10_drop, se_yX10_drop_RX10, in_RX10, cd_yX10_drop, ⟨by decide +kernel, by decide +kernel, by decide +kernel⟩, by decide⟩
theorem cb_X10_edits : CB yX10_edits cX10_edits 3 (some .int) 2 := ⟨im_yX10_edits, se_yX10_edits_RX10, in_RX10, cd_yX10_edits, ⟨by decide +kernel, by decide +kernel, by decide +kernel⟩, by decide⟩
theorem cb_X10_editsFrom : CB yX10_editsFrom cX10_editsFrom 3 (some .int) 1 := ⟨im_yX10_editsFrom, se_yX10_editsFrom_RX10, in_RX10, cd_yX10_editsFrom, ⟨by decide +kernel, by decide +kernel, by decide +kernel⟩, by decide⟩
theorem cb_X10_end : CB yX10_end cX10_end 2 (some .int) 1 := ⟨im_yX10_end, se_yX10_end_RX10, in_RX10, cd_yX10_end, ⟨by decide +kernel, by decide +kernel, by decide +kernel⟩, by decide⟩
theorem cb_X10_feed : CB yX10_feed cX10_feed 6 (some .int) 5 := ⟨im_yX10_feed, se_yX10_feed_RX10, in_RX10, cd_yX10_feed, ⟨by decide +kernel, by decide +kernel, by decide +kernel⟩, by decide⟩
theorem cb_X10_forgetCandidates : CB yX10_forgetCandidates cX10_forgetCandidates 1 none 0 := ⟨im_yX10_forgetCandidates, se_yX10_forgetCandidates_RX10, in_RX10, cd_yX10_forgetCandidates, ⟨by decide +kernel, by decide +kernel, by decide +kernel⟩, by decide⟩
theorem cb_X10_forgetDistances : CB yX10_forgetDistances cX10_forgetDistances 1 none 0 := ⟨im_yX10_forgetDistances, se_yX10_forgetDistances_RX10, in_RX10, cd_yX10_forgetDistances, ⟨by decide +kernel, by decide +kernel, by decide +kernel⟩, by decide⟩
theorem cb_X10_forgetWords : CB yX10_forgetWords cX10_forgetWords 1 none 0 := ⟨im_yX10_forgetWords, se_yX10_forgetWords_RX10, in_RX10, cd_yX10_forgetWords, ⟨by decide +kernel, by decide +kernel, by decide +kernel⟩, by decide⟩
theorem cb_X10_from : CB yX10_from cX10_from 3 (some .int) 1 := ⟨im_yX10_from, se_yX10_from_RX10, in_RX10, cd_yX10_from, ⟨by decide +kernel, by decide +kernel, by decide +kernel⟩, by decide⟩
theorem cb_X10_gap : CB yX10_gap cX10_gap 2 (some .boolean) 1 := ⟨im_yX10_gap, se_yX10_gap_RX10, in_RX10, cd_yX10_gap, ⟨by decide +kernel, by decide +kernel, by decide +kernel⟩, by decide⟩
theorem cb_X10_isLetterOfFour : CBS yX10_isLetterOfFour cX10_isLetterOfFour 1 (some .boolean) 1 := ⟨st_yX10_isLetterOfFour, in_RX10, cd_yX10_isLetterOfFour, ⟨by decide +kernel, by decide +kernel, by decide +kernel⟩, by decide⟩
theorem cb_X10_keyWithout : CB yX10_keyWithout cX10_keyWithout 2 (some .int) 1 := ⟨im_yX10_keyWithout, se_yX10_keyWithout_RX10, in_RX10, cd_yX10_keyWithout, ⟨by decide +kernel, by decide +kernel, by decide +kernel⟩, by decide⟩
theorem cb_X10_leftOut : CB yX10_leftOut cX10_leftOut 3 (some .int) 1 := ⟨im_yX10_leftOut, se_yX10_leftOut_RX10, in_RX10, cd_yX10_leftOut, ⟨by decide +kernel, by decide +kernel, by decide +kernel⟩, by decide⟩
theorem cb_X10_letters : CB yX10_letters cX10_letters 2 (some .boolean) 1 := ⟨im_yX10_letters, se_yX10_letters_RX10, in_RX10, cd_yX10_letters, ⟨by decide +kernel, by decide +kernel, by decide +kernel⟩, by decide⟩
theorem cb_X10_lettersAt : CB yX10_lettersAt cX10_lettersAt 3 (some .int) 2 := ⟨im_yX10_lettersAt, se_yX10_lettersAt_RX10, in_RX10, cd_yX10_lettersAt, ⟨by decide +kernel, by decide +kernel, by decide +kernel⟩, by decide⟩
theorem cb_X10_median : CB yX10_median cX10_median 1 (some .int) 0 := ⟨im_yX10_median, se_yX10_median_RX10, in_RX10, cd_yX10_median, ⟨by decide +kernel, by decide +kernel, by decide +kernel⟩, by decide⟩
theorem cb_X10_medianAt : CB yX10_medianAt cX10_medianAt 2 (some .int) 1 := ⟨im_yX10_medianAt, se_yX10_medianAt_RX10, in_RX10, cd_yX10_medianAt, ⟨by decide +kernel, by decide +kernel, by decide +kernel⟩, by decide⟩
theorem cb_X10_medians : CB yX10_medians cX10_medians 1 (some .int) 0 := ⟨im_yX10_medians, se_yX10_medians_RX10, in_RX10, cd_yX10_medians, ⟨by decide +kernel, by decide +kernel, by decide +kernel⟩, by decide⟩
theorem cb_X10_middle : CB yX10_middle cX10_middle 1 (some .int) 0 := ⟨im_yX10_middle, se_yX10_middle_RX10, in_RX10, cd_yX10_middle, ⟨by decide +kernel, by decide +kernel, by decide +kernel⟩, by decide⟩
theorem cb_X10_middleAt : CB yX10_middleAt cX10_middleAt 2 (some .int) 1 := ⟨im_yX10_middleAt, se_yX10_middleAt_RX10, in_RX10, cd_yX10_middleAt, ⟨by decide +kernel, by decide +kernel, by decide +kernel⟩, by decide⟩
theorem cb_X10_middleLength : CB yX10_middleLength cX10_middleLength 1 (some .int) 0 := ⟨im_yX10_middleLength, se_yX10_middleLength_RX10, in_RX10, cd_yX10_middleLength, ⟨by decide +kernel, by decide +kernel, by decide +kernel⟩, by decide⟩
theorem cb_X10_motif : CB yX10_motif cX10_motif 2 (some .int) 1 := ⟨im_yX10_motif, se_yX10_motif_RX10, in_RX10, cd_yX10_motif, ⟨by decide +kernel, by decide +kernel, by decide +kernel⟩, by decide⟩
theorem cb_X10_motifAt : CB yX10_motifAt cX10_motifAt 3 (some .int) 2 := ⟨im_yX10_motifAt, se_yX10_motifAt_RX10, in_RX10, cd_yX10_motifAt, ⟨by decide +kernel, by decide +kernel, by decide +kernel⟩, by decide⟩
theorem cb_X10_motifIn : CB yX10_motifIn cX10_motifIn 3 (some .int) 2 := ⟨im_yX10_motifIn, se_yX10_motifIn_RX10, in_RX10, cd_yX10_motifIn, ⟨by decide +kernel, by decide +kernel, by decide +kernel⟩, by decide⟩
theorem cb_X10_of : CB yX10_of cX10_of 3 (some .int) 2 := ⟨im_yX10_of, se_yX10_of_RX10, in_RX10, cd_yX10_of, ⟨by decide +kernel, by decide +kernel, by decide +kernel⟩, by decide⟩
theorem cb_X10_part : CB yX10_part cX10_part 3 (some .boolean) 2 := ⟨im_yX10_part, se_yX10_part_RX10, in_RX10, cd_yX10_part, ⟨by decide +kernel, by decide +kernel, by decide +kernel⟩, by decide⟩
theorem cb_X10_swap : CB yX10_swap cX10_swap 2 (some .boolean) 1 := ⟨im_yX10_swap, se_yX10_swap_RX10, in_RX10, cd_yX10_swap, ⟨by decide +kernel, by decide +kernel, by decide +kernel⟩, by decide⟩
theorem cb_X10_text : CB yX10_text cX10_text 2 (some .int) 0 := ⟨im_yX10_text, se_yX10_text_RX10, in_RX10, cd_yX10_text, ⟨by decide +kernel, by decide +kernel, by decide +kernel⟩, by decide⟩
theorem cb_X10_within : CB yX10_within cX10_within 2 (some .int) 1 := ⟨im_yX10_within, se_yX10_within_RX10, in_RX10, cd_yX10_within, ⟨by decide +kernel, by decide +kernel, by decide +kernel⟩, by decide⟩
theorem cb_X10_without : CB yX10_without cX10_without 3 (some .int) 1 := ⟨im_yX10_without, se_yX10_without_RX10, in_RX10, cd_yX10_without, ⟨by decide +kernel, by decide +kernel, by decide +kernel⟩, by decide⟩
theorem cb_X10_word : CB yX10_word cX10_word 2 (some .int) 0 := ⟨im_yX10_word, se_yX10_word_RX10, in_RX10, cd_yX10_word, ⟨by decide +kernel, by decide +kernel, by decide +kernel⟩, by decide⟩
theorem cb_X11_apart : CB yX11_apart cX11_apart 3 (some .int) 2 := ⟨im_yX11_apart, se_yX11_apart_RX11, in_RX11, cd_yX11_apart, ⟨by decide +kernel, by decide +kernel, by decide +kernel⟩, by decide⟩
theorem cb_X11_centre : CB yX11_centre cX11_centre 2 (some .int) 0 := ⟨im_yX11_centre, se_yX11_centre_RX11, in_RX11, cd_yX11_centre, ⟨by decide +kernel, by decide +kernel, by decide +kernel⟩, by decide⟩
theorem cb_X11_centreAt : CB yX11_centreAt cX11_centreAt 2 (some .int) 1 := ⟨im_yX11_centreAt, se_yX11_centreAt_RX11, in_RX11, cd_yX11_centreAt, ⟨by decide +kernel, by decide +kernel, by decide +kernel⟩, by decide⟩
theorem cb_X11_centres : CB yX11_centres cX11_centres 3 (some .int) 1 := ⟨im_yX11_centres, se_yX11_centres_RX11, in_RX11, cd_yX11_centres, ⟨by decide +kernel, by decide +kernel, by decide +kernel⟩, by decide⟩
theorem cb_X11_changes : CB yX11_changes cX11_changes 1 none 0 := ⟨im_yX11_changes, se_yX11_changes_RX11, in_RX11, cd_yX11_changes, ⟨by decide +kernel, by decide +kernel, by decide +kernel⟩, by decide⟩
theorem cb_X11_core : CB yX11_core cX11_core 2 (some .int) 1 := ⟨im_yX11_core, se_yX11_core_RX11, in_RX11, cd_yX11_core, ⟨by decide +kernel, by decide +kernel, by decide +kernel⟩, by decide⟩
theorem cb_X11_coreOf : CB yX11_coreOf cX11_coreOf 5 (some .int) 1 := ⟨im_yX11_coreOf, se_yX11_coreOf_RX11, in_RX11, cd_yX11_coreOf, ⟨by decide +kernel, by decide +kernel, by decide +kernel⟩, by decide⟩
theorem cb_X11_coreSet : CB yX11_coreSet cX11_coreSet 2 (some .int) 1 := ⟨im_yX11_coreSet, se_yX11_coreSet_RX11, in_RX11, cd_yX11_coreSet, ⟨by decide +kernel, by decide +kernel, by decide +kernel⟩, by decide⟩
theorem cb_X11_cost : CB yX11_cost cX11_cost 4 (some .boolean) 3 := ⟨im_yX11_cost, se_yX11_cost_RX11, in_RX11, cd_yX11_cost, ⟨by decide +kernel, by decide +kernel, by decide +kernel⟩, by decide⟩
theorem cb_X11_count : CB yX11_count cX11_count 2 (some .int) 1 := ⟨im_yX11_count, se_yX11_count_RX11, in_RX11, cd_yX11_count, ⟨by decide +kernel, by decide +kernel, by decide +kernel⟩, by decide⟩
theorem cb_X11_cover : CB yX11_cover cX11_cover 3 (some .int) 1 := ⟨im_yX11_cover, se_yX11_cover_RX11, in_RX11, cd_yX11_cover, ⟨by decide +kernel, by decide +kernel, by decide +kernel⟩, by decide⟩
theorem cb_X11_coverOf : CB yX11_coverOf cX11_coverOf 5 (some .int) 1 := ⟨im_yX11_coverOf, se_yX11_coverOf_RX11, in_RX11, cd_yX11_coverOf, ⟨by decide +kernel, by decide +kernel, by decide +kernel⟩, by decide⟩
theorem cb_X11_distance : CB yX11_distance cX11_distance 8 (some .int) 5 := ⟨im_yX11_distance, se_yX11_distance_RX11, in_RX11, cd_yX11_distance, ⟨by decide +kernel, by decide +kernel, by decide +kernel⟩, by decide⟩
theorem cb_X11_drop : CB yX11_drop cX11_drop 2 (some .boolean) 1 := ⟨im_yX11_drop, se_yX11_drop_RX11, in_RX11, cd_yX11_drop, ⟨by decide +kernel, by decide +kernel, by decide +kernel⟩, by decide⟩
theorem cb_X11_edits : CB yX11_edits cX11_edits 10 (some .int) 6 := ⟨im_yX11_edits, se_yX11_edits_RX11, in_RX11, cd_yX11_edits, ⟨by decide +kernel, by decide +kernel, by decide +kernel⟩, by decide⟩
theorem cb_X11_editsFrom : CB yX11_editsFrom cX11_editsFrom 3 (some .int) 1 := ⟨im_yX11_editsFrom, se_yX11_editsFrom_RX11, in_RX11, cd_yX11_editsFrom, ⟨by decide +kernel, by decide +kernel, by decide +kernel⟩, by decide⟩
theorem cb_X11_edits_ : CB yX11_edits_ cX11_edits_ 3 (some .int) 2 := ⟨im_yX11_edits_, se_yX11_edits__RX11, in_RX11, cd_yX11_edits_, ⟨by decide +kernel, by decide +kernel, by decide +kernel⟩, by decide⟩
theorem cb_X11_end : CB yX11_end cX11_end 2 (some .int) 1 := ⟨im_yX11_end, se_yX11_end_RX11, in_RX11, cd_yX11_end, ⟨by decide +kernel, by decide +kernel, by decide +kernel⟩, by decide⟩
theorem cb_X11_feed : CB yX11_feed cX11_feed 8 (some .int) 5 := ⟨im_yX11_feed, se_yX11_feed_RX11, in_RX11, cd_yX11_feed, ⟨by decide +kernel, by decide +kernel, by decide +kernel⟩, by decide⟩
theorem cb_X11_from : CB yX11_from cX11_from 3 (some .int) 1 := ⟨im_yX11_from, se_yX11_from_RX11, in_RX11, cd_yX11_from, ⟨by decide +kernel, by decide +kernel, by decide +kernel⟩, by decide⟩
theorem cb_X11_gap : CB yX11_gap cX11_gap 2 (some .boolean) 1 := ⟨im_yX11_gap, se_yX11_gap_RX11, in_RX11, cd_yX11_gap, ⟨by decide +kernel, by decide +kernel, by decide +kernel⟩, by decide⟩
theorem cb_X11_goesOn : CB yX11_goesOn cX11_goesOn 7 none 2 := ⟨im_yX11_goesOn, se_yX11_goesOn_RX11, in_RX11, cd_yX11_goesOn, ⟨by decide +kernel, by decide +kernel, by decide +kernel⟩, by decide⟩
theorem cb_X11_hasMiddle : CB yX11_hasMiddle cX11_hasMiddle 3 (some .boolean) 0 := ⟨im_yX11_hasMiddle, se_yX11_hasMiddle_RX11, in_RX11, cd_yX11_hasMiddle, ⟨by decide +kernel, by decide +kernel, by decide +kernel⟩, by decide⟩
theorem cb_X11_hasMotif : CB yX11_hasMotif cX11_hasMotif 5 (some .boolean) 1 := ⟨im_yX11_hasMotif, se_yX11_hasMotif_RX11, in_RX11, cd_yX11_hasMotif, ⟨by decide +kernel, by decide +kernel, by decide +kernel⟩, by decide⟩
theorem cb_X11_holds : CB yX11_holds cX11_holds 5 none 1 := ⟨im_yX11_holds, se_yX11_holds_RX11, in_RX11, cd_yX11_holds, ⟨by decide +kernel, by decide +kernel, by decide +kernel⟩, by decide⟩
theorem cb_X11_isAsked : CB yX11_isAsked cX11_isAsked 2 (some .boolean) 1 := ⟨im_yX11_isAsked, se_yX11_isAsked_RX11, in_RX11, cd_yX11_isAsked, ⟨by decide +kernel, by decide +kernel, by decide +kernel⟩, by decide⟩
theorem cb_X11_isCandidate : CB yX11_isCandidate cX11_isCandidate 3 (some .boolean) 1 := ⟨im_yX11_isCandidate, se_yX11_isCandidate_RX11, in_RX11, cd_yX11_isCandidate, ⟨by decide +kernel, by decide +kernel, by decide +kernel⟩, by decide⟩
theorem cb_X11_isWord : CB yX11_isWord cX11_isWord 2 (some .boolean) 1 := ⟨im_yX11_isWord, se_yX11_isWord_RX11, in_RX11, cd_yX11_isWord, ⟨by decide +kernel, by decide +kernel, by decide +kernel⟩, by decide⟩
theorem cb_X11_knows : CB yX11_knows cX11_knows 3 none 0 := ⟨im_yX11_knows, se_yX11_knows_RX11, in_RX11, cd_yX11_knows, ⟨by decide +kernel, by decide +kernel, by decide +kernel⟩, by decide⟩
theorem cb_X11_lays : CB yX11_lays cX11_lays 5 none 2 := ⟨im_yX11_lays, se_yX11_lays_RX11, in_RX11, cd_yX11_lays, ⟨by decide +kernel, by decide +kernel, by decide +kernel⟩, by decide⟩
theorem cb_X11_leastSum : CB yX11_leastSum cX11_leastSum 5 (some .int) 0 := ⟨im_yX11_leastSum, se_yX11_leastSum_RX11, in_RX11, cd_yX11_leastSum, ⟨by decide +kernel, by decide +kernel, by decide +kernel⟩, by decide⟩
theorem cb_X11_leftOut : CB yX11_leftOut cX11_leftOut 6 (some .int) 1 := ⟨im_yX11_leftOut, se_yX11_leftOut_RX11, in_RX11, cd_yX11_leftOut, ⟨by decide +kernel, by decide +kernel, by decide +kernel⟩, by decide⟩
theorem cb_X11_letterOf : CB yX11_letterOf cX11_letterOf 3 (some .int) 2 := ⟨im_yX11_letterOf, se_yX11_letterOf_RX11, in_RX11, cd_yX11_letterOf, ⟨by decide +kernel, by decide +kernel, by decide +kernel⟩, by decide⟩
theorem cb_X11_letters : CB yX11_letters cX11_letters 2 (some .boolean) 1 := ⟨im_yX11_letters, se_yX11_letters_RX11, in_RX11, cd_yX11_letters, ⟨by decide +kernel, by decide +kernel, by decide +kernel⟩, by decide⟩
theorem cb_X11_lettersAt : CB yX11_lettersAt cX11_lettersAt 5 (some .int) 2 := ⟨im_yX11_lettersAt, se_yX11_lettersAt_RX11, in_RX11, cd_yX11_lettersAt, ⟨by decide +kernel, by decide +kernel, by decide +kernel⟩, by decide⟩
theorem cb_X11_many : CB yX11_many cX11_many 4 (some .int) 1 := ⟨im_yX11_many, se_yX11_many_RX11, in_RX11, cd_yX11_many, ⟨by decide +kernel, by decide +kernel, by decide +kernel⟩, by decide⟩
theorem cb_X11_median : CB yX11_median cX11_median 2 (some .int) 0 := ⟨im_yX11_median, se_yX11_median_RX11, in_RX11, cd_yX11_median, ⟨by decide +kernel, by decide +kernel, by decide +kernel⟩, by decide⟩
theorem cb_X11_medianAt : CB yX11_medianAt cX11_medianAt 2 (some .int) 1 := ⟨im_yX11_medianAt, se_yX11_medianAt_RX11, in_RX11, cd_yX11_medianAt, ⟨by decide +kernel, by decide +kernel, by decide +kernel⟩, by decide⟩
theorem cb_X11_medians : CB yX11_medians cX11_medians 1 (some .int) 0 := ⟨im_yX11_medians, se_yX11_medians_RX11, in_RX11, cd_yX11_medians, ⟨by decide +kernel, by decide +kernel, by decide +kernel⟩, by decide⟩
theorem cb_X11_middle : CB yX11_middle cX11_middle 1 (some .int) 0 := ⟨im_yX11_middle, se_yX11_middle_RX11, in_RX11, cd_yX11_middle, ⟨by decide +kernel, by decide +kernel, by decide +kernel⟩, by decide⟩
theorem cb_X11_middleAt : CB yX11_middleAt cX11_middleAt 2 (some .int) 1 := ⟨im_yX11_middleAt, se_yX11_middleAt_RX11, in_RX11, cd_yX11_middleAt, ⟨by decide +kernel, by decide +kernel, by decide +kernel⟩, by decide⟩
theorem cb_X11_middleLength : CB yX11_middleLength cX11_middleLength 1 (some .int) 0 := ⟨im_yX11_middleLength, se_yX11_middleLength_RX11, in_RX11, cd_yX11_middleLength, ⟨by decide +kernel, by decide +kernel, by decide +kernel⟩, by decide⟩
theorem cb_X11_motif : CB yX11_motif cX11_motif 2 (some .int) 1 := ⟨im_yX11_motif, se_yX11_motif_RX11, in_RX11, cd_yX11_motif, ⟨by decide +kernel, by decide +kernel, by decide +kernel⟩, by decide⟩
theorem cb_X11_motifAt : CB yX11_motifAt cX11_motifAt 3 (some .int) 2 := ⟨im_yX11_motifAt, se_yX11_motifAt_RX11, in_RX11, cd_yX11_motifAt, ⟨by decide +kernel, by decide +kernel, by decide +kernel⟩, by decide⟩
theorem cb_X11_motifIn : CB yX11_motifIn cX11_motifIn 3 (some .int) 2 := ⟨im_yX11_motifIn, se_yX11_motifIn_RX11, in_RX11, cd_yX11_motifIn, ⟨by decide +kernel, by decide +kernel, by decide +kernel⟩, by decide⟩
theorem cb_X11_nearBits : CB yX11_nearBits cX11_nearBits 3 (some .int) 0 := ⟨im_yX11_nearBits, se_yX11_nearBits_RX11, in_RX11, cd_yX11_nearBits, ⟨by decide +kernel, by decide +kernel, by decide +kernel⟩, by decide⟩
theorem cb_X11_nearest : CB yX11_nearest cX11_nearest 6 (some .int) 1 := ⟨im_yX11_nearest, se_yX11_nearest_RX11, in_RX11, cd_yX11_nearest, ⟨by decide +kernel, by decide +kernel, by decide +kernel⟩, by decide⟩
theorem cb_X11_nearestPiece : CB yX11_nearestPiece cX11_nearestPiece 5 (some .int) 2 := ⟨im_yX11_nearestPiece, se_yX11_nearestPiece_RX11, in_RX11, cd_yX11_nearestPiece, ⟨by decide +kernel, by decide +kernel, by decide +kernel⟩, by decide⟩
theorem cb_X11_of : CB yX11_of cX11_of 3 (some .int) 2 := ⟨im_yX11_of, se_yX11_of_RX11, in_RX11, cd_yX11_of, ⟨by decide +kernel, by decide +kernel, by decide +kernel⟩, by decide⟩
theorem cb_X11_part : CB yX11_part cX11_part 3 (some .boolean) 2 := ⟨im_yX11_part, se_yX11_part_RX11, in_RX11, cd_yX11_part, ⟨by decide +kernel, by decide +kernel, by decide +kernel⟩, by decide⟩
theorem cb_X11_pieceFar : CB yX11_pieceFar cX11_pieceFar 5 (some .int) 2 := ⟨im_yX11_pieceFar, se_yX11_pieceFar_RX11, in_RX11, cd_yX11_pieceFar, ⟨by decide +kernel, by decide +kernel, by decide +kernel⟩, by decide⟩
theorem cb_X11_power : CBS yX11_power cX11_power 4 (some .int) 2 := ⟨st_yX11_power, in_RX11, cd_yX11_power, ⟨by decide +kernel, by decide +kernel, by decide +kernel⟩, by decide⟩
theorem cb_X11_radius : CB yX11_radius cX11_radius 4 (some .int) 1 := ⟨im_yX11_radius, se_yX11_radius_RX11, in_RX11, cd_yX11_radius, ⟨by decide +kernel, by decide +kernel, by decide +kernel⟩, by decide⟩
theorem cb_X11_radiusBut : CB yX11_radiusBut cX11_radiusBut 8 (some .int) 2 := ⟨im_yX11_radiusBut, se_yX11_radiusBut_RX11, in_RX11, cd_yX11_radiusBut, ⟨by decide +kernel, by decide +kernel, by decide +kernel⟩, by decide⟩
theorem cb_X11_rows : CB yX11_rows cX11_rows 1 (some .int) 0 := ⟨im_yX11_rows, se_yX11_rows_RX11, in_RX11, cd_yX11_rows, ⟨by decide +kernel, by decide +kernel, by decide +kernel⟩, by decide⟩
theorem cb_X11_size : CBS yX11_size cX11_size 3 (some .int) 1 := ⟨st_yX11_size, in_RX11, cd_yX11_size, ⟨by decide +kernel, by decide +kernel, by decide +kernel⟩, by decide⟩
theorem cb_X11_sumOf : CB yX11_sumOf cX11_sumOf 4 (some .int) 1 := ⟨im_yX11_sumOf, se_yX11_sumOf_RX11, in_RX11, cd_yX11_sumOf, ⟨by decide +kernel, by decide +kernel, by decide +kernel⟩, by decide⟩
theorem cb_X11_swap : CB yX11_swap cX11_swap 2 (some .boolean) 1 := ⟨im_yX11_swap, se_yX11_swap_RX11, in_RX11, cd_yX11_swap, ⟨by decide +kernel, by decide +kernel, by decide +kernel⟩, by decide⟩
theorem cb_X11_takes : CB yX11_takes cX11_takes 5 (some .boolean) 2 := ⟨im_yX11_takes, se_yX11_takes_RX11, in_RX11, cd_yX11_takes, ⟨by decide +kernel, by decide +kernel, by decide +kernel⟩, by decide⟩
theorem cb_X11_text : CB yX11_text cX11_text 2 (some .int) 0 := ⟨im_yX11_text, se_yX11_text_RX11, in_RX11, cd_yX11_text, ⟨by decide +kernel, by decide +kernel, by decide +kernel⟩, by decide⟩
theorem cb_X11_thrown : CB yX11_thrown cX11_thrown 1 (some .int) 0 := ⟨im_yX11_thrown, se_yX11_thrown_RX11, in_RX11, cd_yX11_thrown, ⟨by decide +kernel, by decide +kernel, by decide +kernel⟩, by decide⟩
theorem cb_X11_tries : CB yX11_tries cX11_tries 5 none 2 := ⟨im_yX11_tries, se_yX11_tries_RX11, in_RX11, cd_yX11_tries, ⟨by decide +kernel, by decide +kernel, by decide +kernel⟩, by decide⟩
theorem cb_X11_within : CBS yX11_within cX11_within 3 (some .boolean) 3 := ⟨st_yX11_within, in_RX11, cd_yX11_within, ⟨by decide +kernel, by decide +kernel, by decide +kernel⟩, by decide⟩
theorem cb_X11_within_ : CB yX11_within_ cX11_within_ 4 (some .int) 1 := ⟨im_yX11_within_, se_yX11_within__RX11, in_RX11, cd_yX11_within_, ⟨by decide +kernel, by decide +kernel, by decide +kernel⟩, by decide⟩
theorem cb_X11_without : CB yX11_without cX11_without 3 (some .int) 1 := ⟨im_yX11_without, se_yX11_without_RX11, in_RX11, cd_yX11_without, ⟨by decide +kernel, by decide +kernel, by decide +kernel⟩, by decide⟩
theorem cb_X11_word : CB yX11_word cX11_word 3 (some .int) 0 := ⟨im_yX11_word, se_yX11_word_RX11, in_RX11, cd_yX11_word, ⟨by decide +kernel, by decide +kernel, by decide +kernel⟩, by decide⟩
theorem cb_X1_descend : CB yX1_descend cX1_descend 5 (some .int) 2 := ⟨im_yX1_descend, se_yX1_descend_RX1, in_RX1, cd_yX1_descend, ⟨by decide +kernel, by decide +kernel, by decide +kernel⟩, by decide⟩
theorem cb_X1_editing : CB yX1_editing cX1_editing 6 (some .int) 4 := ⟨im_yX1_editing, se_yX1_editing_RX1, in_RX1, cd_yX1_editing, ⟨by decide +kernel, by decide +kernel, by decide +kernel⟩, by decide⟩
theorem cb_X1_firstLine : CB yX1_firstLine cX1_firstLine 3 none 1 := ⟨im_yX1_firstLine, se_yX1_firstLine_RX1, in_RX1, cd_yX1_firstLine, ⟨by decide +kernel, by decide +kernel, by decide +kernel⟩, by decide⟩
theorem cb_X1_leastEnd : CB yX1_leastEnd cX1_leastEnd 10 (some .int) 3 := ⟨im_yX1_leastEnd, se_yX1_leastEnd_RX1, in_RX1, cd_yX1_leastEnd, ⟨by decide +kernel, by decide +kernel, by decide +kernel⟩, by decide⟩
theorem cb_X1_leastOfNear : CB yX1_leastOfNear cX1_leastOfNear 3 (some .int) 0 := ⟨im_yX1_leastOfNear, se_yX1_leastOfNear_RX1, in_RX1, cd_yX1_leastOfNear, ⟨by decide +kernel, by decide +kernel, by decide +kernel⟩, by decide⟩
theorem cb_X1_nextLine : CB yX1_nextLine cX1_nextLine 15 none 3 := ⟨im_yX1_nextLine, se_yX1_nextLine_RX1, in_RX1, cd_yX1_nextLine, ⟨by decide +kernel, by decide +kernel, by decide +kernel⟩, by decide⟩
theorem cb_X1_put : CB yX1_put cX1_put 5 (some .int) 2 := ⟨im_yX1_put, se_yX1_put_RX1, in_RX1, cd_yX1_put, ⟨by decide +kernel, by decide +kernel, by decide +kernel⟩, by decide⟩
theorem cb_X1_refresh : CB yX1_refresh cX1_refresh 2 none 0 := ⟨im_yX1_refresh, se_yX1_refresh_RX1, in_RX1, cd_yX1_refresh, ⟨by decide +kernel, by decide +kernel, by decide +kernel⟩, by decide⟩
theorem cb_X1_search : CB yX1_search cX1_search 5 none 1 := ⟨im_yX1_search, se_yX1_search_RX1, in_RX1, cd_yX1_search, ⟨by decide +kernel, by decide +kernel, by decide +kernel⟩, by decide⟩
theorem cb_X1_sumFrom : CB yX1_sumFrom cX1_sumFrom 4 (some .int) 1 := ⟨im_yX1_sumFrom, se_yX1_sumFrom_RX1, in_RX1, cd_yX1_sumFrom, ⟨by decide +kernel, by decide +kernel, by decide +kernel⟩, by decide⟩
theorem cb_X2_descend : CB yX2_descend cX2_descend 5 (some .int) 2 := ⟨im_yX2_descend, se_yX2_descend_RX2, in_RX2, cd_yX2_descend, ⟨by decide +kernel, by decide +kernel, by decide +kernel⟩, by decide⟩
theorem cb_X2_forget : CB yX2_forget cX2_forget 2 none 0 := ⟨im_yX2_forget, se_yX2_forget_RX2, in_RX2, cd_yX2_forget, ⟨by decide +kernel, by decide +kernel, by decide +kernel⟩, by decide⟩
theorem cb_X2_leastReach : CB yX2_leastReach cX2_leastReach 7 (some .int) 2 := ⟨im_yX2_leastReach, se_yX2_leastReach_RX2, in_RX2, cd_yX2_leastReach, ⟨by decide +kernel, by decide +kernel, by decide +kernel⟩, by decide⟩
theorem cb_X2_leastSum : CB yX2_leastSum cX2_leastSum 9 (some .int) 3 := ⟨im_yX2_leastSum, se_yX2_leastSum_RX2, in_RX2, cd_yX2_leastSum, ⟨by decide +kernel, by decide +kernel, by decide +kernel⟩, by decide⟩
theorem cb_X2_nearestPiece : CB yX2_nearestPiece cX2_nearestPiece 7 (some .int) 2 := ⟨im_yX2_nearestPiece, se_yX2_nearestPiece_RX2, in_RX2, cd_yX2_nearestPiece, ⟨by decide +kernel, by decide +kernel, by decide +kernel⟩, by decide⟩
theorem cb_X2_refresh : CB yX2_refresh cX2_refresh 4 none 1 := ⟨im_yX2_refresh, se_yX2_refresh_RX2, in_RX2, cd_yX2_refresh, ⟨by decide +kernel, by decide +kernel, by decide +kernel⟩, by decide⟩
theorem cb_X3_advance : CB yX3_advance cX3_advance 6 (some .int) 3 := ⟨im_yX3_advance, se_yX3_advance_RX3, in_RX3, cd_yX3_advance, ⟨by decide +kernel, by decide +kernel, by decide +kernel⟩, by decide⟩
theorem cb_X3_distance : CB yX3_distance cX3_distance 12 (some .int) 5 := ⟨im_yX3_distance, se_yX3_distance_RX3, in_RX3, cd_yX3_distance, ⟨by decide +kernel, by decide +kernel, by decide +kernel⟩, by decide⟩
theorem cb_X3_rowsOf : CB yX3_rowsOf cX3_rowsOf 4 (some .int) 1 := ⟨im_yX3_rowsOf, se_yX3_rowsOf_RX3, in_RX3, cd_yX3_rowsOf, ⟨by decide +kernel, by decide +kernel, by decide +kernel⟩, by decide⟩
theorem cb_X3_setPrice : CB yX3_setPrice cX3_setPrice 4 none 3 := ⟨im_yX3_setPrice, se_yX3_setPrice_RX3, in_RX3, cd_yX3_setPrice, ⟨by decide +kernel, by decide +kernel, by decide +kernel⟩, by decide⟩
theorem cb_X4_coverAll : CB yX4_coverAll cX4_coverAll 3 none 0 := ⟨im_yX4_coverAll, se_yX4_coverAll_RX4, in_RX4, cd_yX4_coverAll, ⟨by decide +kernel, by decide +kernel, by decide +kernel⟩, by decide⟩
theorem cb_X4_fewestSets : CB yX4_fewestSets cX4_fewestSets 3 (some .int) 1 := ⟨im_yX4_fewestSets, se_yX4_fewestSets_RX4, in_RX4, cd_yX4_fewestSets, ⟨by decide +kernel, by decide +kernel, by decide +kernel⟩, by decide⟩
theorem cb_X4_hold : CB yX4_hold cX4_hold 3 none 2 := ⟨im_yX4_hold, se_yX4_hold_RX4, in_RX4, cd_yX4_hold, ⟨by decide +kernel, by decide +kernel, by decide +kernel⟩, by decide⟩
theorem cb_X4_holdNearest : CB yX4_holdNearest cX4_holdNearest 6 none 1 := ⟨im_yX4_holdNearest, se_yX4_holdNearest_RX4, in_RX4, cd_yX4_holdNearest, ⟨by decide +kernel, by decide +kernel, by decide +kernel⟩, by decide⟩
theorem cb_X4_holdSmallerSets : CB yX4_holdSmallerSets cX4_holdSmallerSets 4 none 0 := ⟨im_yX4_holdSmallerSets, se_yX4_holdSmallerSets_RX4, in_RX4, cd_yX4_holdSmallerSets, ⟨by decide +kernel, by decide +kernel, by decide +kernel⟩, by decide⟩
theorem cb_X4_leastNotHeld : CB yX4_leastNotHeld cX4_leastNotHeld 6 (some .int) 1 := ⟨im_yX4_leastNotHeld, se_yX4_leastNotHeld_RX4, in_RX4, cd_yX4_leastNotHeld, ⟨by decide +kernel, by decide +kernel, by decide +kernel⟩, by decide⟩
theorem cb_X4_leastWithout : CB yX4_leastWithout cX4_leastWithout 5 (some .int) 1 := ⟨im_yX4_leastWithout, se_yX4_leastWithout_RX4, in_RX4, cd_yX4_leastWithout, ⟨by decide +kernel, by decide +kernel, by decide +kernel⟩, by decide⟩
theorem cb_X4_lookAtAll : CB yX4_lookAtAll cX4_lookAtAll 4 none 0 := ⟨im_yX4_lookAtAll, se_yX4_lookAtAll_RX4, in_RX4, cd_yX4_lookAtAll, ⟨by decide +kernel, by decide +kernel, by decide +kernel⟩, by decide⟩
theorem cb_X4_partOnce : CB yX4_partOnce cX4_partOnce 5 none 1 := ⟨im_yX4_partOnce, se_yX4_partOnce_RX4, in_RX4, cd_yX4_partOnce, ⟨by decide +kernel, by decide +kernel, by decide +kernel⟩, by decide⟩
theorem cb_X4_reachOf : CB yX4_reachOf cX4_reachOf 2 (some .int) 1 := ⟨im_yX4_reachOf, se_yX4_reachOf_RX4, in_RX4, cd_yX4_reachOf, ⟨by decide +kernel, by decide +kernel, by decide +kernel⟩, by decide⟩
theorem cb_X4_refresh : CB yX4_refresh cX4_refresh 2 none 0 := ⟨im_yX4_refresh, se_yX4_refresh_RX4, in_RX4, cd_yX4_refresh, ⟨by decide +kernel, by decide +kernel, by decide +kernel⟩, by decide⟩
theorem cb_X4_rowOf : CB yX4_rowOf cX4_rowOf 2 (some .int) 1 := ⟨im_yX4_rowOf, se_yX4_rowOf_RX4, in_RX4, cd_yX4_rowOf, ⟨by decide +kernel, by decide +kernel, by decide +kernel⟩, by decide⟩
theorem cb_X4_sortByDistance : CB yX4_sortByDistance cX4_sortByDistance 7 none 2 := ⟨im_yX4_sortByDistance, se_yX4_sortByDistance_RX4, in_RX4, cd_yX4_sortByDistance, ⟨by decide +kernel, by decide +kernel, by decide +kernel⟩, by decide⟩
theorem cb_X5_addUp : CB yX5_addUp cX5_addUp 2 none 0 := ⟨im_yX5_addUp, se_yX5_addUp_RX5, in_RX5, cd_yX5_addUp, ⟨by decide +kernel, by decide +kernel, by decide +kernel⟩, by decide⟩
theorem cb_X5_clear : CB yX5_clear cX5_clear 2 none 0 := ⟨im_yX5_clear, se_yX5_clear_RX5, in_RX5, cd_yX5_clear, ⟨by decide +kernel, by decide +kernel, by decide +kernel⟩, by decide⟩
theorem cb_X5_lookAtAll : CB yX5_lookAtAll cX5_lookAtAll 4 none 0 := ⟨im_yX5_lookAtAll, se_yX5_lookAtAll_RX5, in_RX5, cd_yX5_lookAtAll, ⟨by decide +kernel, by decide +kernel, by decide +kernel⟩, by decide⟩
theorem cb_X5_lookAtOne : CB yX5_lookAtOne cX5_lookAtOne 7 none 1 := ⟨im_yX5_lookAtOne, se_yX5_lookAtOne_RX5, in_RX5, cd_yX5_lookAtOne, ⟨by decide +kernel, by decide +kernel, by decide +kernel⟩, by decide⟩
theorem cb_X5_refresh : CB yX5_refresh cX5_refresh 1 none 0 := ⟨im_yX5_refresh, se_yX5_refresh_RX5, in_RX5, cd_yX5_refresh, ⟨by decide +kernel, by decide +kernel, by decide +kernel⟩, by decide⟩
theorem cb_X6_add : CB yX6_add cX6_add 3 none 1 := ⟨im_yX6_add, se_yX6_add_RX6, in_RX6, cd_yX6_add, ⟨by decide +kernel, by decide +kernel, by decide +kernel⟩, by decide⟩
theorem cb_X6_take : CB yX6_take cX6_take 5 (some .int) 1 := ⟨im_yX6_take, se_yX6_take_RX6, in_RX6, cd_yX6_take, ⟨by decide +kernel, by decide +kernel, by decide +kernel⟩, by decide⟩
theorem cb_X7_add : CB yX7_add cX7_add 3 none 2 := ⟨im_yX7_add, se_yX7_add_RX7, in_RX7, cd_yX7_add, ⟨by decide +kernel, by decide +kernel, by decide +kernel⟩, by decide⟩
theorem cb_X7_allHave : CB yX7_allHave cX7_allHave 3 (some .boolean) 1 := ⟨im_yX7_allHave, se_yX7_allHave_RX7, in_RX7, cd_yX7_allHave, ⟨by decide +kernel, by decide +kernel, by decide +kernel⟩, by decide⟩
theorem cb_X7_has : CB yX7_has cX7_has 2 (some .boolean) 1 := ⟨im_yX7_has, se_yX7_has_RX7, in_RX7, cd_yX7_has, ⟨by decide +kernel, by decide +kernel, by decide +kernel⟩, by decide⟩
theorem cb_X7_piecesOf : CB yX7_piecesOf cX7_piecesOf 3 (some .int) 2 := ⟨im_yX7_piecesOf, se_yX7_piecesOf_RX7, in_RX7, cd_yX7_piecesOf, ⟨by decide +kernel, by decide +kernel, by decide +kernel⟩, by decide⟩
theorem cb_X7_start : CB yX7_start cX7_start 2 (some .int) 1 := ⟨im_yX7_start, se_yX7_start_RX7, in_RX7, cd_yX7_start, ⟨by decide +kernel, by decide +kernel, by decide +kernel⟩, by decide⟩
theorem cb_X8_advance : CB yX8_advance cX8_advance 2 (some .int) 1 := ⟨im_yX8_advance, se_yX8_advance_RX8, in_RX8, cd_yX8_advance, ⟨by decide +kernel, by decide +kernel, by decide +kernel⟩, by decide⟩
theorem cb_X8_aimAt : CB yX8_aimAt cX8_aimAt 4 none 2 := ⟨im_yX8_aimAt, se_yX8_aimAt_RX8, in_RX8, cd_yX8_aimAt, ⟨by decide +kernel, by decide +kernel, by decide +kernel⟩, by decide⟩
theorem cb_X8_begin : CB yX8_begin cX8_begin 3 none 1 := ⟨im_yX8_begin, se_yX8_begin_RX8, in_RX8, cd_yX8_begin, ⟨by decide +kernel, by decide +kernel, by decide +kernel⟩, by decide⟩
theorem cb_X8_letterAt : CBS yX8_letterAt cX8_letterAt 3 (some .int) 3 := ⟨st_yX8_letterAt, in_RX8, cd_yX8_letterAt, ⟨by decide +kernel, by decide +kernel, by decide +kernel⟩, by decide⟩
theorem cb_X8_packedRow : CB yX8_packedRow cX8_packedRow 1 (some .int) 0 := ⟨im_yX8_packedRow, se_yX8_packedRow_RX8, in_RX8, cd_yX8_packedRow, ⟨by decide +kernel, by decide +kernel, by decide +kernel⟩, by decide⟩
theorem cb_X8_put : CB yX8_put cX8_put 8 none 1 := ⟨im_yX8_put, se_yX8_put_RX8, in_RX8, cd_yX8_put, ⟨by decide +kernel, by decide +kernel, by decide +kernel⟩, by decide⟩
theorem cb_X8_putFrom : CB yX8_putFrom cX8_putFrom 3 none 1 := ⟨im_yX8_putFrom, se_yX8_putFrom_RX8, in_RX8, cd_yX8_putFrom, ⟨by decide +kernel, by decide +kernel, by decide +kernel⟩, by decide⟩
theorem cb_X8_putSwapped : CB yX8_putSwapped cX8_putSwapped 8 none 1 := ⟨im_yX8_putSwapped, se_yX8_putSwapped_RX8, in_RX8, cd_yX8_putSwapped, ⟨by decide +kernel, by decide +kernel, by decide +kernel⟩, by decide⟩
theorem cb_X8_spotAt : CBS yX8_spotAt cX8_spotAt 2 (some .int) 2 := ⟨st_yX8_spotAt, in_RX8, cd_yX8_spotAt, ⟨by decide +kernel, by decide +kernel, by decide +kernel⟩, by decide⟩
theorem cb_X8_spotsOfRow : CB yX8_spotsOfRow cX8_spotsOfRow 1 (some .int) 0 := ⟨im_yX8_spotsOfRow, se_yX8_spotsOfRow_RX8, in_RX8, cd_yX8_spotsOfRow, ⟨by decide +kernel, by decide +kernel, by decide +kernel⟩, by decide⟩
theorem cb_X8_whole : CB yX8_whole cX8_whole 1 (some .int) 0 := ⟨im_yX8_whole, se_yX8_whole_RX8, in_RX8, cd_yX8_whole, ⟨by decide +kernel, by decide +kernel, by decide +kernel⟩, by decide⟩
theorem cb_X9_add : CB yX9_add cX9_add 3 none 2 := ⟨im_yX9_add, se_yX9_add_RX9, in_RX9, cd_yX9_add, ⟨by decide +kernel, by decide +kernel, by decide +kernel⟩, by decide⟩
theorem cb_X9_has : CB yX9_has cX9_has 2 (some .boolean) 1 := ⟨im_yX9_has, se_yX9_has_RX9, in_RX9, cd_yX9_has, ⟨by decide +kernel, by decide +kernel, by decide +kernel⟩, by decide⟩
theorem cb_X9_hasNear : CB yX9_hasNear cX9_hasNear 1 (some .boolean) 0 := ⟨im_yX9_hasNear, se_yX9_hasNear_RX9, in_RX9, cd_yX9_hasNear, ⟨by decide +kernel, by decide +kernel, by decide +kernel⟩, by decide⟩
theorem cb_X9_having : CB yX9_having cX9_having 4 (some .int) 1 := ⟨im_yX9_having, se_yX9_having_RX9, in_RX9, cd_yX9_having, ⟨by decide +kernel, by decide +kernel, by decide +kernel⟩, by decide⟩
theorem cb_X9_letterOfRow : CB yX9_letterOfRow cX9_letterOfRow 3 (some .int) 2 := ⟨im_yX9_letterOfRow, se_yX9_letterOfRow_RX9, in_RX9, cd_yX9_letterOfRow, ⟨by decide +kernel, by decide +kernel, by decide +kernel⟩, by decide⟩
theorem cb_X9_start : CB yX9_start cX9_start 2 (some .int) 1 := ⟨im_yX9_start, se_yX9_start_RX9, in_RX9, cd_yX9_start, ⟨by decide +kernel, by decide +kernel, by decide +kernel⟩, by decide⟩
def Zi (X : CX) (K : KX) (lay : List PD) (Q : Int → Mem → Prop) : State → Prop := ZM X K lay (fun v M' => ∃ r : Int, v = some (iV r) ∧ Q r M')
def Zv (X : CX) (K : KX) (lay : List PD) (Q : Mem → Prop) : State → Prop := ZM X K lay (fun v M' => v = none ∧ Q M')
def MCi (l : Launch) (K : KX) (lay : List PD) (y : MethodName) (cc : ByteArray) (nL : Nat) (ret : Option FieldType) (d : Nat) (av : List Value) (M : Mem) (Q : Int → Mem → Prop) : Prop := MC l K lay y cc nL ret d av M (fun v M' => ∃ r : Int, v = some (iV r) ∧ Q r M')
def MCv (l : Launch) (K : KX) (lay : List PD) (y : MethodName) (cc : ByteArray) (nL : Nat) (ret : Option FieldType) (d : Nat) (av : List Value) (M : Mem) (Q : Mem → Prop) : Prop := MC l K lay y cc nL ret d av M (fun v M' => v = none ∧ Q M')
theorem mci_intro {l : Launch} {K : KX} {lay : List PD} {y : MethodName} {cc : ByteArray} {nL : Nat} {ret : Option FieldType} {d : Nat} {av : List Value} {M : Mem} {Q : Int → Mem → Prop} (own : String) (hown : y.cls = own) (L : List (Option Value)) (hL : LV0 av nL = L) (hy : plainName y.cls = true) (hc : ∀ v ∈ av, v.category = 1) (hn : av.length ≤ nL)
    (body : ∀ X : CX, lOf X = l → CXok X K lay cc own nL ret d → PW X K lay nL (0, 0) (Zi X K lay Q) 0 L [] M) : MCi l K lay y cc nL ret d av M Q := by
  subst hown
  subst hL
  exact mc_intro hy hc hn body
theorem mcv_intro {l : Launch} {K : KX} {lay : List PD} {y : MethodName} {cc : ByteArray} {nL : Nat} {ret : Option FieldType} {d : Nat} {av : List Value} {M : Mem} {Q : Mem → Prop} (own : String) (hown : y.cls = own) (L : List (Option Value)) (hL : LV0 av nL = L) (hy : plainName y.cls = true) (hc : ∀ v ∈ av, v.category = 1) (hn : av.length ≤ nL)
    (body : ∀ X : CX, lOf X = l → CXok X K lay cc own nL ret d → PW X K lay nL (0, 0) (Zv X K lay Q) 0 L [] M) : MCv l K lay y cc nL ret d av M Q := by
  subst hown
  subst hL
  exact mc_intro hy hc hn body
theorem cat_nil : ∀ v ∈ ([] : List Value), v.category = 1 := fun _ h => absurd h List.not_mem_nil
theorem cat_i {z : Int} {r : List Value} (h : ∀ v ∈ r, v.category = 1) : ∀ v ∈ iV z :: r, v.category = 1 := fun v hv => (List.mem_cons.mp hv).elim (fun e => by rw [e]; rfl) (h v)
theorem cat_r {K : KX} {k : Nat} {r : List Value} (h : ∀ v ∈ r, v.category = 1) : ∀ v ∈ rV K k :: r, v.category = 1 := fun v hv => (List.mem_cons.mp hv).elim (fun e => by rw [e]; rfl) (h v)
theorem pw_iretI {X : CX} {K : KX} {lay : List PD} {cc : ByteArray} {own : String} {nL : Nat} {d pc : Nat} {M : Mem} {Q : Int → Mem → Prop} {L : List (Option Value)} (C : CXok X K lay cc own nL (some .int) d) {z : Int} (hd : decode cc pc = .ok (.ireturn, 1)) (hq : Q z M) : PW X K lay nL (0, 0) (Zi X K lay Q) pc L [iV z] M := pw_iret C hd ⟨z, rfl, hq⟩
theorem pw_zretI {X : CX} {K : KX} {lay : List PD} {cc : ByteArray} {own : String} {nL : Nat} {d pc : Nat} {M : Mem} {Q : Int → Mem → Prop} {L : List (Option Value)} (C : CXok X K lay cc own nL (some .boolean) d) {z : Int} (hd : decode cc pc = .ok (.ireturn, 1)) (hz : z = 0 ∨ z = 1) (hq : Q z M) : PW X K lay nL (0, 0) (Zi X K lay Q) pc L [iV z] M := pw_zret C hz hd ⟨z, rfl, hq⟩
theorem pw_vretV {X : CX} {K : KX} {lay : List PD} {cc : ByteArray} {own : String} {nL : Nat} {d pc : Nat} {M : Mem} {Q : Mem → Prop} {L : List (Option Value)} (C : CXok X K lay cc own nL none d) (hd : decode cc pc = .ok (.return_, 1)) (hq : Q M) : PW X K lay nL (0, 0) (Zv X K lay Q) pc L [] M := pw_vret C hd ⟨rfl, hq⟩
theorem pw_callVi {X : CX} {K : KX} {lay : List PD} {cc : ByteArray} {own : String} {nL : Nat} {ret : Option FieldType} {d : Nat} {Z : State → Prop} {pc : Nat} {st : List Value} {M : Mem} (C : CXok X K lay cc own nL ret d) {L : List (Option Value)} {Cn : String} {T : u_T} {N ci k idx n nL' d' : Nat} {codes : List Nat} {y : MethodName} {cc' : ByteArray} {ret' : Option FieldType} {As rest : List Value} {Q : Int → Mem → Prop} (hM : MCi (lOf X) K lay y cc' nL' ret' d' (rV K k :: As) M Q) (hB : CB y cc' nL' ret' n) (hlay : lay[k]? = some (0, ci, codes)) (hci : vwCl[ci]? = some (Cn, T, N)) (hcl : y.cls = Cn) (hml9 : Cond.methodLink own idx y ∈ wsL_law0) (hd : decode cc pc = .ok (.invokevirtual idx, 3)) (hdd : d' < d) (hn : As.length = n) (hrest : (rest.map fun v => v.category).sum ≤ 8) (hst : st = As.reverse ++ rV K k :: rest)
    (kk : ∀ (r : Int) (M' : Mem), Q r M' → PW X K lay nL (0, 0) Z (pc + 3) L (iV r :: rest) M') : PW X K lay nL (0, 0) Z pc L st M :=
  pw_callV C hM hB hlay hci hcl hml9 hd hdd ⟨Nat.zero_le _, Nat.zero_le _⟩ hn hrest hst (fun v M' h => by obtain ⟨r, rfl, h⟩ := h; exact kk r M' h)
theorem pw_callSi {X : CX} {K : KX} {lay : List PD} {cc : ByteArray} {own : String} {nL : Nat} {ret : Option FieldType} {d : Nat} {Z : State → Prop} {pc : Nat} {st : List Value} {M : Mem} (C : CXok X K lay cc own nL ret d) {L : List (Option Value)} {idx n nL' d' : Nat} {y : MethodName} {cc' : ByteArray} {ret' : Option FieldType} {As rest : List Value} {Q : Int → Mem → Prop} (hM : MCi (lOf X) K lay y cc' nL' ret' d' As M Q) (hB : CBS y cc' nL' ret' n) (hml9 : Cond.methodLink own idx y ∈ wsL_law0) (hd : decode cc pc = .ok (.invokestatic idx, 3)) (hdd : d' < d) (hn : As.length = n) (hrest : (rest.map fun v => v.category).sum ≤ 8) (hst : st = As.reverse ++ rest)
    (kk : ∀ (r : Int) (M' : Mem), Q r M' → PW X K lay nL (0, 0) Z (pc + 3) L (iV r :: rest) M') : PW X K lay nL (0, 0) Z pc L st M :=
  pw_callS C hM hB hml9 hd hdd ⟨Nat.zero_le _, Nat.zero_le _⟩ hn hrest hst (fun v M' h => by obtain ⟨r, rfl, h⟩ := h; exact kk r M' h)
theorem pw_callVv {X : CX} {K : KX} {lay : List PD} {cc : ByteArray} {own : String} {nL : Nat} {ret : Option FieldType} {d : Nat} {Z : State → Prop} {pc : Nat} {st : List Value} {M : Mem} (C : CXok X K lay cc own nL ret d) {L : List (Option Value)} {Cn : String} {T : u_T} {N ci k idx n nL' d' : Nat} {codes : List Nat} {y : MethodName} {cc' : ByteArray} {ret' : Option FieldType} {As rest : List Value} {Q : Mem → Prop} (hM : MCv (lOf X) K lay y cc' nL' ret' d' (rV K k :: As) M Q) (hB : CB y cc' nL' ret' n) (hlay : lay[k]? = some (0, ci, codes)) (hci : vwCl[ci]? = some (Cn, T, N)) (hcl : y.cls = Cn) (hml9 : Cond.methodLink own idx y ∈ wsL_law0) (hd : decode cc pc = .ok (.invokevirtual idx, 3)) (hdd : d' < d) (hn : As.length = n) (hrest : (rest.map fun v => v.category).sum ≤ 8) (hst : st = As.reverse ++ rV K k :: rest)
    (kk : ∀ (M' : Mem), Q M' → PW X K lay nL (0, 0) Z (pc + 3) L rest M') : PW X K lay nL (0, 0) Z pc L st M :=
  pw_callV C hM hB hlay hci hcl hml9 hd hdd ⟨Nat.zero_le _, Nat.zero_le _⟩ hn hrest hst (fun v M' h => by obtain ⟨rfl, h⟩ := h; exact kk M' h)
theorem pw_callSv {X : CX} {K : KX} {lay : List PD} {cc : ByteArray} {own : String} {nL : Nat} {ret : Option FieldType} {d : Nat} {Z : State → Prop} {pc : Nat} {st : List Value} {M : Mem} (C : CXok X K lay cc own nL ret d) {L : List (Option Value)} {idx n nL' d' : Nat} {y : MethodName} {cc' : ByteArray} {ret' : Option FieldType} {As rest : List Value} {Q : Mem → Prop} (hM : MCv (lOf X) K lay y cc' nL' ret' d' As M Q) (hB : CBS y cc' nL' ret' n) (hml9 : Cond.methodLink own idx y ∈ wsL_law0) (hd : decode cc pc = .ok (.invokestatic idx, 3)) (hdd : d' < d) (hn : As.length = n) (hrest : (rest.map fun v => v.category).sum ≤ 8) (hst : st = As.reverse ++ rest)
    (kk : ∀ (M' : Mem), Q M' → PW X K lay nL (0, 0) Z (pc + 3) L rest M') : PW X K lay nL (0, 0) Z pc L st M :=
  pw_callS C hM hB hml9 hd hdd ⟨Nat.zero_le _, Nat.zero_le _⟩ hn hrest hst (fun v M' h => by obtain ⟨rfl, h⟩ := h; exact kk M' h)
def Sm (S : List Nat) (M0 M : Mem) : Prop := ∀ k, k ∉ S → M k = M0 k
theorem Sm_refl {S : List Nat} {M : Mem} : Sm S M M := fun _ _ => rfl
theorem Sm_up {S : List Nat} {M0 M : Mem} {c : Nat} {j z : Int} (h : Sm S M0 M) (hc : c ∈ S) : Sm S M0 (up2 M c j z) := fun k hk => (up2_ne (fun e => hk (by rw [e]; exact hc))).trans (h k hk)
theorem Sm_trans {S S1 : List Nat} {M0 M M1 : Mem} (h : Sm S M0 M) (h1 : Sm S1 M M1) (hs : ∀ x ∈ S1, x ∈ S) : Sm S M0 M1 := fun k hk => (h1 k (fun e => hk (hs k e))).trans (h k hk)
theorem Sm_mono {S S1 : List Nat} {M0 M : Mem} (h : Sm S1 M0 M) (hs : ∀ x ∈ S1, x ∈ S) : Sm S M0 M := fun k hk => h k (fun e => hk (hs k e))
theorem rd_eq {M : Mem} {k : Nat} {j z : Int} : up2 M k j z k j = z := by simp [up2]
theorem rd_ne {M : Mem} {k : Nat} {j z b : Int} (h : b ≠ j) : up2 M k j z k b = M k b := by simp [up2, h]
theorem rd_nc {M : Mem} {k a : Nat} {j z b : Int} (h : a ≠ k) : up2 M k j z a b = M a b := by simp [up2, h]
def Fm (J : List Int) (M0 M : Mem) : Prop := ∀ j : Int, j ∉ J → M 43 j = M0 43 j
theorem Fm_refl {J : List Int} {M : Mem} : Fm J M M := fun _ _ => rfl
theorem Fm_up {J : List Int} {M0 M : Mem} {i z : Int} (h : Fm J M0 M) (hi : i ∈ J) : Fm J M0 (up2 M 43 i z) := fun j hj => (rd_ne (fun e => hj (by rw [e]; exact hi))).trans (h j hj)
theorem Fm_nc {J : List Int} {M0 M : Mem} {c : Nat} {i z : Int} (h : Fm J M0 M) (hc : 43 ≠ c) : Fm J M0 (up2 M c i z) := fun j hj => (rd_nc hc).trans (h j hj)
theorem Fm_fr {J : List Int} {S : List Nat} {M0 M M1 : Mem} (h : Fm J M0 M) (hF : Sm S M M1) (hc : 43 ∉ S) : Fm J M0 M1 := fun j hj => (congrFun (hF 43 hc) j).trans (h j hj)
theorem Fm_tr {J J1 : List Int} {M0 M M1 : Mem} (h : Fm J M0 M) (h1 : Fm J1 M M1) (hs : ∀ x ∈ J1, x ∈ J) : Fm J M0 M1 := fun j hj => (h1 j (fun e => hj (hs j e))).trans (h j hj)
def fgt (L L' : List (Option Value)) : Prop := ∀ (i : Nat) (v : Value), L'[i]? = some (some v) → L[i]? = some (some v)
theorem fgt_nil : fgt [] [] := fun _ _ h => h
theorem fgt_no {a : Option Value} {r r' : List (Option Value)} (h : fgt r r') : fgt (a :: r) (none :: r') := fun i v hi => by
  cases i with
  | zero => simp at hi
  | succ i => simpa using h i v (by simpa using hi)
theorem fgt_k {a : Option Value} {r r' : List (Option Value)} (h : fgt r r') : fgt (a :: r) (a :: r') := fun i v hi => by
  cases i with
  | zero => simpa using hi
  | succ i => simpa using h i v (by simpa using hi)
theorem pw_fgt {X : CX} {K : KX} {lay : List PD} {nL : Nat} {cs : Nat × Nat} {Z : State → Prop} {pc : Nat} {st : List Value} {M : Mem} {L L' : List (Option Value)} (h : fgt L L') (k : PW X K lay nL cs Z pc L' st M) : PW X K lay nL cs Z pc L st M := by
  obtain ⟨p, l, e, R, s, m, args, below, meth, c0, A⟩ := X
  intro H locs ls hP hS hl
  refine k H locs ls hP hS ⟨⟨hl.1.1, hl.1.2.1, ?_⟩, ?_⟩
  · rintro ⟨j, v⟩ hq
    obtain ⟨i, hi, hv⟩ := (lvl_mem _ 0 j v).mp hq
    have hji : j = i := by omega
    subst hji
    exact hl.at (h j v hv)
  · intro v hv
    obtain ⟨i, hi⟩ := List.getElem?_of_mem hv
    exact hl.2 v (List.mem_of_getElem? (h i v hi))
theorem pw_mem {X : CX} {K : KX} {lay : List PD} {nL : Nat} {cs : Nat × Nat} {Z : State → Prop} {pc : Nat} {st : List Value} {M M' : Mem} {L : List (Option Value)} (h : M = M') (k : PW X K lay nL cs Z pc L st M') : PW X K lay nL cs Z pc L st M := by
  rw [h]
  exact k
