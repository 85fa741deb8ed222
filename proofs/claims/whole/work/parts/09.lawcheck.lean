/-! THE LAW's own table, held against its bytes in pieces -/
theorem all_cut {α : Type} {p : α → Bool} {l : List α} (n : Nat) (h1 : (l.take n).all p = true) (h2 : (l.drop n).all p = true) : l.all p = true := by
  rw [← List.take_append_drop n l, List.all_append, h1, h2]
  rfl
def pL : ME → Bool := xChkE (xOw 233) (mt 233).2.2.2 (xRt 233) (xIni 233) (xBc 233)
theorem ckL_0 : ((t_L_law.drop 0).take 40).all pL = true := by decide +kernel
theorem ckL_1 : ((t_L_law.drop 40).take 40).all pL = true := by decide +kernel
theorem ckL_2 : ((t_L_law.drop 80).take 40).all pL = true := by decide +kernel
theorem ckL_3 : ((t_L_law.drop 120).take 40).all pL = true := by decide +kernel
theorem ckL_4 : ((t_L_law.drop 160).take 40).all pL = true := by decide +kernel
theorem ckL_5 : ((t_L_law.drop 200).take 40).all pL = true := by decide +kernel
theorem ckL_6 : ((t_L_law.drop 240).take 40).all pL = true := by decide +kernel
theorem ckL_7 : ((t_L_law.drop 280).take 40).all pL = true := by decide +kernel
theorem ckL_8 : ((t_L_law.drop 320).take 40).all pL = true := by decide +kernel
theorem ckL_9 : ((t_L_law.drop 360).take 40).all pL = true := by decide +kernel
theorem ckL_10 : ((t_L_law.drop 400).take 40).all pL = true := by decide +kernel
theorem ckL_11 : ((t_L_law.drop 440).take 40).all pL = true := by decide +kernel
theorem ckL_12 : ((t_L_law.drop 480).take 40).all pL = true := by decide +kernel
theorem ckL_13 : ((t_L_law.drop 520).take 40).all pL = true := by decide +kernel
theorem ckL_14 : ((t_L_law.drop 560).take 40).all pL = true := by decide +kernel
theorem ckL_15 : ((t_L_law.drop 600).take 40).all pL = true := by decide +kernel
theorem ckL_16 : ((t_L_law.drop 640).take 40).all pL = true := by decide +kernel
theorem ckL_17 : ((t_L_law.drop 680).take 40).all pL = true := by decide +kernel
theorem ckL_18 : ((t_L_law.drop 720).take 40).all pL = true := by decide +kernel
theorem ckL_19 : ((t_L_law.drop 760).take 40).all pL = true := by decide +kernel
theorem ckL_20 : ((t_L_law.drop 800).take 40).all pL = true := by decide +kernel
theorem ckL_21 : ((t_L_law.drop 840).take 40).all pL = true := by decide +kernel
theorem ckL_22 : ((t_L_law.drop 880).take 40).all pL = true := by decide +kernel
theorem ckL_end : (t_L_law.drop 920).all pL = true := by decide +kernel
theorem ckd_23 : (t_L_law.drop 920).all pL = true := ckL_end
theorem ckd_22 : (t_L_law.drop 880).all pL = true := all_cut 40 ckL_22 (by rw [List.drop_drop]; exact ckd_23)
theorem ckd_21 : (t_L_law.drop 840).all pL = true := all_cut 40 ckL_21 (by rw [List.drop_drop]; exact ckd_22)
theorem ckd_20 : (t_L_law.drop 800).all pL = true := all_cut 40 ckL_20 (by rw [List.drop_drop]; exact ckd_21)
theorem ckd_19 : (t_L_law.drop 760).all pL = true := all_cut 40 ckL_19 (by rw [List.drop_drop]; exact ckd_20)
theorem ckd_18 : (t_L_law.drop 720).all pL = true := all_cut 40 ckL_18 (by rw [List.drop_drop]; exact ckd_19)
theorem ckd_17 : (t_L_law.drop 680).all pL = true := all_cut 40 ckL_17 (by rw [List.drop_drop]; exact ckd_18)
theorem ckd_16 : (t_L_law.drop 640).all pL = true := all_cut 40 ckL_16 (by rw [List.drop_drop]; exact ckd_17)
theorem ckd_15 : (t_L_law.drop 600).all pL = true := all_cut 40 ckL_15 (by rw [List.drop_drop]; exact ckd_16)
theorem ckd_14 : (t_L_law.drop 560).all pL = true := all_cut 40 ckL_14 (by rw [List.drop_drop]; exact ckd_15)
theorem ckd_13 : (t_L_law.drop 520).all pL = true := all_cut 40 ckL_13 (by rw [List.drop_drop]; exact ckd_14)
theorem ckd_12 : (t_L_law.drop 480).all pL = true := all_cut 40 ckL_12 (by rw [List.drop_drop]; exact ckd_13)
theorem ckd_11 : (t_L_law.drop 440).all pL = true := all_cut 40 ckL_11 (by rw [List.drop_drop]; exact ckd_12)
theorem ckd_10 : (t_L_law.drop 400).all pL = true := all_cut 40 ckL_10 (by rw [List.drop_drop]; exact ckd_11)
theorem ckd_9 : (t_L_law.drop 360).all pL = true := all_cut 40 ckL_9 (by rw [List.drop_drop]; exact ckd_10)
theorem ckd_8 : (t_L_law.drop 320).all pL = true := all_cut 40 ckL_8 (by rw [List.drop_drop]; exact ckd_9)
theorem ckd_7 : (t_L_law.drop 280).all pL = true := all_cut 40 ckL_7 (by rw [List.drop_drop]; exact ckd_8)
theorem ckd_6 : (t_L_law.drop 240).all pL = true := all_cut 40 ckL_6 (by rw [List.drop_drop]; exact ckd_7)
theorem ckd_5 : (t_L_law.drop 200).all pL = true := all_cut 40 ckL_5 (by rw [List.drop_drop]; exact ckd_6)
theorem ckd_4 : (t_L_law.drop 160).all pL = true := all_cut 40 ckL_4 (by rw [List.drop_drop]; exact ckd_5)
theorem ckd_3 : (t_L_law.drop 120).all pL = true := all_cut 40 ckL_3 (by rw [List.drop_drop]; exact ckd_4)
theorem ckd_2 : (t_L_law.drop 80).all pL = true := all_cut 40 ckL_2 (by rw [List.drop_drop]; exact ckd_3)
theorem ckd_1 : (t_L_law.drop 40).all pL = true := all_cut 40 ckL_1 (by rw [List.drop_drop]; exact ckd_2)
theorem ckd_0 : (t_L_law.drop 0).all pL = true := all_cut 40 ckL_0 (by rw [List.drop_drop]; exact ckd_1)
theorem ck_L_law : xChk 233 = true := ckd_0
theorem xChk_all (k : Nat) : xChk k = true := by
  match k with
  | 0 => exact ck_Jx4a65c_init_da8c8
  | 1 => exact ck_Jx4a65c_grow_92f84
  | 2 => exact ck_Jx4a65c_grow_d5877
  | 3 => exact ck_Jx4a65c_size_8abf5
  | 4 => exact ck_Jx4a65c_elementData_915e3
  | 5 => exact ck_Jx4a65c_get_915e3
  | 6 => exact ck_Jx4a65c_add_72be8
  | 7 => exact ck_Jx4a65c_add_9ea2d
  | 8 => exact ck_Jx4a65c_remove_915e3
  | 9 => exact ck_Jx4a65c_fastRemove_b59b0
  | 10 => exact ck_X0_init
  | 11 => exact ck_X0_keep
  | 12 => exact ck_X0_restore
  | 13 => exact ck_X0_tryNow
  | 14 => exact ck_X0_tryBehind
  | 15 => exact ck_X0_spoken
  | 16 => exact ck_X0_utters
  | 17 => exact ck_X0_keeps
  | 18 => exact ck_X0_tells
  | 19 => exact ck_X1_init
  | 20 => exact ck_X1_copyFrom
  | 21 => exact ck_X1_keep
  | 22 => exact ck_X1_restore
  | 23 => exact ck_X1_calm
  | 24 => exact ck_X1_peace
  | 25 => exact ck_X1_lastOf
  | 26 => exact ck_X1_softOf
  | 27 => exact ck_X1_holds
  | 28 => exact ck_X1_testHolds
  | 29 => exact ck_X1_factOf
  | 30 => exact ck_X1_readText
  | 31 => exact ck_X1_readClause
  | 32 => exact ck_X1_addClause
  | 33 => exact ck_X1_readEither
  | 34 => exact ck_X1_readFactor
  | 35 => exact ck_X1_readBracket
  | 36 => exact ck_X1_readTest
  | 37 => exact ck_X1_isLetter
  | 38 => exact ck_X1_readNumber
  | 39 => exact ck_X1_takes
  | 40 => exact ck_X1_takesAll
  | 41 => exact ck_X2_init
  | 42 => exact ck_X2_spoken
  | 43 => exact ck_X2_tells
  | 44 => exact ck_X3_init
  | 45 => exact ck_X3_spoken
  | 46 => exact ck_X3_tells
  | 47 => exact ck_X4_init
  | 48 => exact ck_X4_spoken
  | 49 => exact ck_X4_utters
  | 50 => exact ck_X5_init
  | 51 => exact ck_X5_copyFrom
  | 52 => exact ck_X5_age
  | 53 => exact ck_X5_tell
  | 54 => exact ck_X5_telling
  | 55 => exact ck_X6_init
  | 56 => exact ck_X6_spoken
  | 57 => exact ck_X6_utters
  | 58 => exact ck_X7_init
  | 59 => exact ck_X7_add
  | 60 => exact ck_X7_at
  | 61 => exact ck_X7_put
  | 62 => exact ck_X7_clear
  | 63 => exact ck_X7_copyFrom
  | 64 => exact ck_X7_keep
  | 65 => exact ck_X7_restore
  | 66 => exact ck_X7_copy
  | 67 => exact ck_X8_init
  | 68 => exact ck_X8_spoken
  | 69 => exact ck_X8_keeps
  | 70 => exact ck_X9_init
  | 71 => exact ck_X9_spoken
  | 72 => exact ck_X9_keeps
  | 73 => exact ck_X10_init
  | 74 => exact ck_X10_feed
  | 75 => exact ck_X10_cellar
  | 76 => exact ck_X10_bottle
  | 77 => exact ck_X10_guest
  | 78 => exact ck_X10_of
  | 79 => exact ck_X10_row
  | 80 => exact ck_X10_set
  | 81 => exact ck_X10_mood
  | 82 => exact ck_X10_told
  | 83 => exact ck_X10_pour
  | 84 => exact ck_X10_both
  | 85 => exact ck_X10_pass
  | 86 => exact ck_X10_on
  | 87 => exact ck_X10_when
  | 88 => exact ck_X10_ripe
  | 89 => exact ck_X10_lies
  | 90 => exact ck_X10_choose
  | 91 => exact ck_X10_line
  | 92 => exact ck_X10_pair
  | 93 => exact ck_X10_match
  | 94 => exact ck_X10_words
  | 95 => exact ck_X10_see
  | 96 => exact ck_X10_old
  | 97 => exact ck_X10_firm
  | 98 => exact ck_X10_whose
  | 99 => exact ck_X10_odds
  | 100 => exact ck_X10_mean
  | 101 => exact ck_X10_evening
  | 102 => exact ck_X10_done
  | 103 => exact ck_X10_book
  | 104 => exact ck_X10_looked
  | 105 => exact ck_X10_act
  | 106 => exact ck_X10_trace
  | 107 => exact ck_X10_as
  | 108 => exact ck_X10_image
  | 109 => exact ck_X10_undo
  | 110 => exact ck_X10_count
  | 111 => exact ck_X10_within
  | 112 => exact ck_X10_isIn
  | 113 => exact ck_X10_nearer
  | 114 => exact ck_X10_heldMood
  | 115 => exact ck_X10_kindAbove
  | 116 => exact ck_X10_added
  | 117 => exact ck_X10_sum
  | 118 => exact ck_X10_fraction
  | 119 => exact ck_X10_isGuest
  | 120 => exact ck_X10_bottleAt
  | 121 => exact ck_X10_madeOf
  | 122 => exact ck_X10_says
  | 123 => exact ck_X10_allSay
  | 124 => exact ck_X10_fullOnes
  | 125 => exact ck_X10_hearAll
  | 126 => exact ck_X10_saidBy
  | 127 => exact ck_X10_lift
  | 128 => exact ck_X10_calmDown
  | 129 => exact ck_X10_bestLine
  | 130 => exact ck_X10_moodOf
  | 131 => exact ck_X10_countPairs
  | 132 => exact ck_X10_makesPeace
  | 133 => exact ck_X10_partnerOf
  | 134 => exact ck_X10_leastPartner
  | 135 => exact ck_X10_allSeenIsSo
  | 136 => exact ck_X10_tryRow
  | 137 => exact ck_X10_allSayAsTried
  | 138 => exact ck_X11_init
  | 139 => exact ck_X11_in
  | 140 => exact ck_X11_within
  | 141 => exact ck_X11_size
  | 142 => exact ck_X11_nearer
  | 143 => exact ck_X11_isBottle
  | 144 => exact ck_X11_isGuest
  | 145 => exact ck_X11_isMood
  | 146 => exact ck_X11_isSaying
  | 147 => exact ck_X11_keeps
  | 148 => exact ck_X11_goesBack
  | 149 => exact ck_X11_feed
  | 150 => exact ck_X11_here
  | 151 => exact ck_X11_must
  | 152 => exact ck_X11_spells
  | 153 => exact ck_X11_figures
  | 154 => exact ck_X11_among
  | 155 => exact ck_X11_emits
  | 156 => exact ck_X11_factor
  | 157 => exact ck_X11_every
  | 158 => exact ck_X11_some
  | 159 => exact ck_X11_much
  | 160 => exact ck_X11_tellsHere
  | 161 => exact ck_X11_wordOfS
  | 162 => exact ck_X11_clauseHere
  | 163 => exact ck_X11_cellar
  | 164 => exact ck_X11_tellsOf
  | 165 => exact ck_X11_looks
  | 166 => exact ck_X11_softOf
  | 167 => exact ck_X11_saysOf
  | 168 => exact ck_X11_bottle
  | 169 => exact ck_X11_guest
  | 170 => exact ck_X11_of
  | 171 => exact ck_X11_row
  | 172 => exact ck_X11_set
  | 173 => exact ck_X11_mood
  | 174 => exact ck_X11_fullOnes
  | 175 => exact ck_X11_allSay
  | 176 => exact ck_X11_allMoods
  | 177 => exact ck_X11_told
  | 178 => exact ck_X11_brings
  | 179 => exact ck_X11_pours
  | 180 => exact ck_X11_pour
  | 181 => exact ck_X11_both
  | 182 => exact ck_X11_goes
  | 183 => exact ck_X11_goesOn
  | 184 => exact ck_X11_pass
  | 185 => exact ck_X11_on
  | 186 => exact ck_X11_when
  | 187 => exact ck_X11_ripe
  | 188 => exact ck_X11_lies
  | 189 => exact ck_X11_looksForSayings
  | 190 => exact ck_X11_countOf
  | 191 => exact ck_X11_sumOf
  | 192 => exact ck_X11_choose
  | 193 => exact ck_X11_ordersFrom
  | 194 => exact ck_X11_line
  | 195 => exact ck_X11_pair
  | 196 => exact ck_X11_pairsFrom
  | 197 => exact ck_X11_match
  | 198 => exact ck_X11_words
  | 199 => exact ck_X11_see
  | 200 => exact ck_X11_isAsSeen
  | 201 => exact ck_X11_areAsSeen
  | 202 => exact ck_X11_old
  | 203 => exact ck_X11_firm
  | 204 => exact ck_X11_whose
  | 205 => exact ck_X11_lowest
  | 206 => exact ck_X11_odds
  | 207 => exact ck_X11_mean
  | 208 => exact ck_X11_evening
  | 209 => exact ck_X11_does
  | 210 => exact ck_X11_done
  | 211 => exact ck_X11_book
  | 212 => exact ck_X11_looked
  | 213 => exact ck_X11_ranBody
  | 214 => exact ck_X11_isUnder
  | 215 => exact ck_X11_plainUtters
  | 216 => exact ck_X11_uttersActs
  | 217 => exact ck_X11_plainKeeping
  | 218 => exact ck_X11_keepsActs
  | 219 => exact ck_X11_plainTelling
  | 220 => exact ck_X11_tellsActs
  | 221 => exact ck_X11_act
  | 222 => exact ck_X11_trace
  | 223 => exact ck_X11_as
  | 224 => exact ck_X11_image
  | 225 => exact ck_X11_undo
  | 226 => exact ck_X11_count
  | 227 => exact ck_J6_numberOfTrailingZeros_0f7a4
  | 228 => exact ck_J6_bitCount_0f7a4
  | 229 => exact ck_J15_checkIndex_7cf53
  | 230 => exact ck_J3_checkIndex_8e157
  | 231 => exact ck_Jxc12de_init_da8c8
  | 232 => exact ck_Jxa1e45_init_da8c8
  | 233 => exact ck_L_law
  | k + 234 => rfl
