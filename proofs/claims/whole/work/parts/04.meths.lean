theorem xlt {a b : Nat} (h : Nat.ble (a + 1) b = true) : a < b := Nat.le_of_ble_eq_true h
theorem nI_iadd (a b : Nat) : nI a + nI b = nI (a + b) := nI_add a b
theorem nI_addc (a b : Nat) {c : Int32} (h : c = nI b) : nI a + c = nI (a + b) := by rw [h]; exact nI_add a b
theorem nI_imul (a b : Nat) : nI a * nI b = nI (a * b) := (Int32.ofNat_mul a b).symm
theorem nI_iand (a b : Nat) : nI a &&& nI b = nI (a &&& b) := by
  apply Int32.toBitVec_inj.mp
  exact BitVec.ofNat_and.symm
theorem nI_ior (a b : Nat) : nI a ||| nI b = nI (a ||| b) := by
  apply Int32.toBitVec_inj.mp
  exact BitVec.ofNat_or.symm
theorem nI_isub (a b : Nat) (h : b ≤ a) : nI a - nI b = nI (a - b) := by
  have e : nI a = nI (a - b) + nI b := by rw [nI_add, Nat.sub_add_cancel h]
  rw [e]
  exact Int32.add_sub_cancel _ _
/-- sums -/
def sumI (f : Nat → Int32) : Nat → Int32
  | 0 => 0
  | n + 1 => sumI f n + f n
def sumL (f : Nat → Int64) : Nat → Int64
  | 0 => 0
  | n + 1 => sumL f n + f n
/-- the first n places filled -/
def fillT {α : Type} (n : Nat) (F G : Nat → α) : Nat → α := fun j => if j < n then F j else G j
theorem fillT_0 {α : Type} (F G : Nat → α) : fillT 0 F G = G := by funext j; simp [fillT]
theorem fillT_upd (n : Nat) (F G : Nat → Int32) : upd (fillT n F G) n (F n) = fillT (n + 1) F G := by
  funext j
  simp only [upd, fillT]
  by_cases h : j = n
  · subst h; simp
  · simp only [h, if_false]
    by_cases h2 : j < n
    · simp [h2, Nat.lt_succ_of_lt h2]
    · have : ¬ j < n + 1 := by omega
      simp [h2, this]
theorem fillT_updL (n : Nat) (F G : Nat → Int64) : vp_updL (fillT n F G) n (F n) = fillT (n + 1) F G := by
  funext j
  simp only [vp_updL, fillT]
  by_cases h : j = n
  · subst h; simp
  · simp only [h, if_false]
    by_cases h2 : j < n
    · simp [h2, Nat.lt_succ_of_lt h2]
    · have : ¬ j < n + 1 := by omega
      simp [h2, this]
theorem upd_self (f : Nat → Int32) (k : Nat) (x : Int32) : upd f k x k = x := by simp [upd]
theorem upd_ne (f : Nat → Int32) {k j : Nat} (x : Int32) (h : j ≠ k) : upd f k x j = f j := by simp [upd, h]
theorem updL_self (f : Nat → Int64) (k : Nat) (x : Int64) : vp_updL f k x k = x := by simp [vp_updL]
theorem updL_ne (f : Nat → Int64) {k j : Nat} (x : Int64) (h : j ≠ k) : vp_updL f k x j = f j := by simp [vp_updL, h]
theorem allS {P : Nat → Prop} {i : Nat} (h : ∀ k, k < i → P k) (h2 : P i) : ∀ k, k < i + 1 → P k := fun k hk => by
  rcases Nat.lt_or_ge k i with q | q
  · exact h k q
  · have e : k = i := by omega
    rw [e]; exact h2
theorem cpy_all {α : Type} (f f2 : Nat → α) {n j : Nat} (h : j < n) : va_cpy f f2 0 0 n j = f j := by
  simp [va_cpy, h]

theorem mX8_init : xMI yX8_init cX8_init 3 0 := ⟨⟨im_X8_init, rfl⟩, ini_X8, cd_X8_init, by decide +kernel, by decide⟩
theorem mX6_init : xMI yX6_init cX6_init 1 0 := ⟨⟨im_X6_init, rfl⟩, ini_X6, cd_X6_init, by decide +kernel, by decide⟩
theorem mX5_init : xMI yX5_init cX5_init 6 0 := ⟨⟨im_X5_init, rfl⟩, ini_X5, cd_X5_init, by decide +kernel, by decide⟩
theorem mX3_init : xMI yX3_init cX3_init 2 1 := ⟨⟨im_X3_init, rfl⟩, ini_X3, cd_X3_init, by decide +kernel, by decide⟩
theorem mX0_init : xMI yX0_init cX0_init 4 3 := ⟨⟨im_X0_init, rfl⟩, ini_X0, cd_X0_init, by decide +kernel, by decide⟩
theorem mX2_init : xMI yX2_init cX2_init 2 1 := ⟨⟨im_X2_init, rfl⟩, ini_X2, cd_X2_init, by decide +kernel, by decide⟩
theorem mX7_init : xMI yX7_init cX7_init 5 4 := ⟨⟨im_X7_init, rfl⟩, ini_X7, cd_X7_init, by decide +kernel, by decide⟩
theorem mX1_init : xMI yX1_init cX1_init 1 0 := ⟨⟨im_X1_init, rfl⟩, ini_X1, cd_X1_init, by decide +kernel, by decide⟩
theorem mX4_init : xMI yX4_init cX4_init 1 0 := ⟨⟨im_X4_init, rfl⟩, ini_X4, cd_X4_init, by decide +kernel, by decide⟩
theorem mX8_place : xMV yX8_place cX8_place 2 (some .int) 1 := ⟨⟨im_X8_place, sl_X8_place⟩, ini_X8, cd_X8_place, by decide +kernel, by decide⟩
theorem mX8_isRow : xMS yX8_isRow cX8_isRow 2 (some .boolean) 1 := ⟨sm_X8_isRow, ini_X8, cd_X8_isRow, by decide +kernel, by decide⟩
theorem mJ6_bitCount_0f7a4 : xMS yJ6_bitCount_0f7a4 cJ6_bitCount_0f7a4 1 (some .int) 1 := ⟨sm_J6_bitCount_0f7a4, ini_J6, cd_J6_bitCount_0f7a4, by decide +kernel, by decide⟩
theorem mX5_placeOf : xMS yX5_placeOf cX5_placeOf 4 (some .int) 1 := ⟨sm_X5_placeOf, ini_X5, cd_X5_placeOf, by decide +kernel, by decide⟩
theorem mX5_choose : xMS yX5_choose cX5_choose 4 (some .int) 2 := ⟨sm_X5_choose, ini_X5, cd_X5_choose, by decide +kernel, by decide⟩
theorem mX8_tell : xMV yX8_tell cX8_tell 2 (some .int) 1 := ⟨⟨im_X8_tell, sl_X8_tell⟩, ini_X8, cd_X8_tell, by decide +kernel, by decide⟩
theorem mX8_within : xMS yX8_within cX8_within 3 (some .boolean) 3 := ⟨sm_X8_within, ini_X8, cd_X8_within, by decide +kernel, by decide⟩
theorem mX8_row : xMV yX8_row cX8_row 2 (some .int) 1 := ⟨⟨im_X8_row, sl_X8_row⟩, ini_X8, cd_X8_row, by decide +kernel, by decide⟩
theorem mX8_isPlace : xMS yX8_isPlace cX8_isPlace 1 (some .boolean) 1 := ⟨sm_X8_isPlace, ini_X8, cd_X8_isPlace, by decide +kernel, by decide⟩
theorem mX8_people : xMV yX8_people cX8_people 4 (some .int) 2 := ⟨⟨im_X8_people, sl_X8_people⟩, ini_X8, cd_X8_people, by decide +kernel, by decide⟩
theorem mX0_stir : xMV yX0_stir cX0_stir 1 none 0 := ⟨⟨im_X0_stir, sl_X0_stir⟩, ini_X0, cd_X0_stir, by decide +kernel, by decide⟩
theorem mX8_of : xMV yX8_of cX8_of 3 (some .int) 2 := ⟨⟨im_X8_of, sl_X8_of⟩, ini_X8, cd_X8_of, by decide +kernel, by decide⟩
theorem mX8_isPeople : xMV yX8_isPeople cX8_isPeople 2 (some .boolean) 1 := ⟨⟨im_X8_isPeople, sl_X8_isPeople⟩, ini_X8, cd_X8_isPeople, by decide +kernel, by decide⟩
theorem mX8_many : xMV yX8_many cX8_many 4 (some .int) 2 := ⟨⟨im_X8_many, sl_X8_many⟩, ini_X8, cd_X8_many, by decide +kernel, by decide⟩
theorem mX8_as : xMV yX8_as cX8_as 3 (some .int) 2 := ⟨⟨im_X8_as, sl_X8_as⟩, ini_X8, cd_X8_as, by decide +kernel, by decide⟩
theorem mX8_isUnder : xMS yX8_isUnder cX8_isUnder 4 (some .boolean) 2 := ⟨sm_X8_isUnder, ini_X8, cd_X8_isUnder, by decide +kernel, by decide⟩
theorem mX8_likes : xMV yX8_likes cX8_likes 3 (some .int) 2 := ⟨⟨im_X8_likes, sl_X8_likes⟩, ini_X8, cd_X8_likes, by decide +kernel, by decide⟩
theorem mX0_settle : xMV yX0_settle cX0_settle 3 none 0 := ⟨⟨im_X0_settle, sl_X0_settle⟩, ini_X0, cd_X0_settle, by decide +kernel, by decide⟩
theorem mX6_latestDraw : xMV yX6_latestDraw cX6_latestDraw 1 (some .int) 0 := ⟨⟨im_X6_latestDraw, sl_X6_latestDraw⟩, ini_X6, cd_X6_latestDraw, by decide +kernel, by decide⟩
theorem mX6_bookCell : xMV yX6_bookCell cX6_bookCell 3 (some .int) 2 := ⟨⟨im_X6_bookCell, sl_X6_bookCell⟩, ini_X6, cd_X6_bookCell, by decide +kernel, by decide⟩
theorem mX2_say : xMV yX2_say cX2_say 7 (some .int) 3 := ⟨⟨im_X2_say, sl_X2_say⟩, ini_X2, cd_X2_say, by decide +kernel, by decide⟩
theorem mX6_hasLiking : xMV yX6_hasLiking cX6_hasLiking 1 (some .boolean) 0 := ⟨⟨im_X6_hasLiking, sl_X6_hasLiking⟩, ini_X6, cd_X6_hasLiking, by decide +kernel, by decide⟩
theorem mX2_named : xMV yX2_named cX2_named 5 (some .int) 4 := ⟨⟨im_X2_named, sl_X2_named⟩, ini_X2, cd_X2_named, by decide +kernel, by decide⟩
theorem mX2_longestChain : xMS yX2_longestChain cX2_longestChain 4 (some .int) 1 := ⟨sm_X2_longestChain, ini_X2, cd_X2_longestChain, by decide +kernel, by decide⟩
theorem mX2_act : xMV yX2_act cX2_act 5 (some .int) 2 := ⟨⟨im_X2_act, sl_X2_act⟩, ini_X2, cd_X2_act, by decide +kernel, by decide⟩
theorem mJ7_fill_53178 : xMS yJ7_fill_53178 cJ7_fill_53178 4 none 2 := ⟨sm_J7_fill_53178, ini_J7, cd_J7_fill_53178, by decide +kernel, by decide⟩
theorem mX0_likeAll : xMV yX0_likeAll cX0_likeAll 5 (some .int) 2 := ⟨⟨im_X0_likeAll, sl_X0_likeAll⟩, ini_X0, cd_X0_likeAll, by decide +kernel, by decide⟩
theorem mX0_likingOf : xMV yX0_likingOf cX0_likingOf 5 (some .int) 3 := ⟨⟨im_X0_likingOf, sl_X0_likingOf⟩, ini_X0, cd_X0_likingOf, by decide +kernel, by decide⟩
theorem mX0_born : xMS yX0_born cX0_born 1 (some .int) 1 := ⟨sm_X0_born, ini_X0, cd_X0_born, by decide +kernel, by decide⟩
theorem mX5_inOneLine : xMS yX5_inOneLine cX5_inOneLine 1 (some .boolean) 1 := ⟨sm_X5_inOneLine, ini_X5, cd_X5_inOneLine, by decide +kernel, by decide⟩
theorem mX5_hasColumn : xMS yX5_hasColumn cX5_hasColumn 3 (some .boolean) 1 := ⟨sm_X5_hasColumn, ini_X5, cd_X5_hasColumn, by decide +kernel, by decide⟩
theorem mX0_addCrosses : xMV yX0_addCrosses cX0_addCrosses 4 none 2 := ⟨⟨im_X0_addCrosses, sl_X0_addCrosses⟩, ini_X0, cd_X0_addCrosses, by decide +kernel, by decide⟩
theorem mX8_crossed : xMV yX8_crossed cX8_crossed 3 (some .int) 2 := ⟨⟨im_X8_crossed, sl_X8_crossed⟩, ini_X8, cd_X8_crossed, by decide +kernel, by decide⟩
theorem mX0_crossesBy : xMV yX0_crossesBy cX0_crossesBy 5 (some .int) 3 := ⟨⟨im_X0_crossesBy, sl_X0_crossesBy⟩, ini_X0, cd_X0_crossesBy, by decide +kernel, by decide⟩
theorem mX8_buys : xMV yX8_buys cX8_buys 5 (some .int) 2 := ⟨⟨im_X8_buys, sl_X8_buys⟩, ini_X8, cd_X8_buys, by decide +kernel, by decide⟩
theorem mX6_boughtAt : xMV yX6_boughtAt cX6_boughtAt 3 (some .int) 1 := ⟨⟨im_X6_boughtAt, sl_X6_boughtAt⟩, ini_X6, cd_X6_boughtAt, by decide +kernel, by decide⟩
theorem mX8_returned : xMV yX8_returned cX8_returned 3 (some .int) 0 := ⟨⟨im_X8_returned, sl_X8_returned⟩, ini_X8, cd_X8_returned, by decide +kernel, by decide⟩
theorem mX8_feed : xMV yX8_feed cX8_feed 4 (some .int) 2 := ⟨⟨im_X8_feed, sl_X8_feed⟩, ini_X8, cd_X8_feed, by decide +kernel, by decide⟩
theorem mX8_wipe : xMV yX8_wipe cX8_wipe 2 (some .int) 0 := ⟨⟨im_X8_wipe, sl_X8_wipe⟩, ini_X8, cd_X8_wipe, by decide +kernel, by decide⟩
theorem mX8_liking : xMV yX8_liking cX8_liking 2 (some .int) 0 := ⟨⟨im_X8_liking, sl_X8_liking⟩, ini_X8, cd_X8_liking, by decide +kernel, by decide⟩
theorem mX1_faultOf : xMV yX1_faultOf cX1_faultOf 3 (some .int) 2 := ⟨⟨im_X1_faultOf, sl_X1_faultOf⟩, ini_X1, cd_X1_faultOf, by decide +kernel, by decide⟩
theorem mX1_readSum : xMV yX1_readSum cX1_readSum 4 none 1 := ⟨⟨im_X1_readSum, sl_X1_readSum⟩, ini_X1, cd_X1_readSum, by decide +kernel, by decide⟩
theorem mX1_readProduct : xMV yX1_readProduct cX1_readProduct 3 none 1 := ⟨⟨im_X1_readProduct, sl_X1_readProduct⟩, ini_X1, cd_X1_readProduct, by decide +kernel, by decide⟩
theorem mX1_readFactor : xMV yX1_readFactor cX1_readFactor 2 none 1 := ⟨⟨im_X1_readFactor, sl_X1_readFactor⟩, ini_X1, cd_X1_readFactor, by decide +kernel, by decide⟩
theorem mX1_digit : xMV yX1_digit cX1_digit 1 (some .int) 0 := ⟨⟨im_X1_digit, sl_X1_digit⟩, ini_X1, cd_X1_digit, by decide +kernel, by decide⟩
theorem mX1_readNumber : xMV yX1_readNumber cX1_readNumber 3 none 0 := ⟨⟨im_X1_readNumber, sl_X1_readNumber⟩, ini_X1, cd_X1_readNumber, by decide +kernel, by decide⟩
theorem mX1_put : xMV yX1_put cX1_put 2 none 1 := ⟨⟨im_X1_put, sl_X1_put⟩, ini_X1, cd_X1_put, by decide +kernel, by decide⟩
theorem mX1_nameHere : xMV yX1_nameHere cX1_nameHere 1 (some .int) 0 := ⟨⟨im_X1_nameHere, sl_X1_nameHere⟩, ini_X1, cd_X1_nameHere, by decide +kernel, by decide⟩
theorem mJ0_indexOf_0f7a4 : xMV yJ0_indexOf_0f7a4 cJ0_indexOf_0f7a4 2 (some .int) 1 := ⟨⟨im_J0_indexOf_0f7a4, sl_J0_indexOf_0f7a4⟩, ini_J0, cd_J0_indexOf_0f7a4, by decide +kernel, by decide⟩
theorem mJ0_indexOf_7cf53 : xMV yJ0_indexOf_7cf53 cJ0_indexOf_7cf53 3 (some .int) 2 := ⟨⟨im_J0_indexOf_7cf53, sl_J0_indexOf_7cf53⟩, ini_J0, cd_J0_indexOf_7cf53, by decide +kernel, by decide⟩
theorem mJ0_isLatin1_aae02 : xMV yJ0_isLatin1_aae02 cJ0_isLatin1_aae02 1 (some .boolean) 0 := ⟨⟨im_J0_isLatin1_aae02, sl_J0_isLatin1_aae02⟩, ini_J0, cd_J0_isLatin1_aae02, by decide +kernel, by decide⟩
theorem mJ0_length_8abf5 : xMV yJ0_length_8abf5 cJ0_length_8abf5 1 (some .int) 0 := ⟨⟨im_J0_length_8abf5, sl_J0_length_8abf5⟩, ini_J0, cd_J0_length_8abf5, by decide +kernel, by decide⟩
theorem mJ0_coder_7d493 : xMV yJ0_coder_7d493 cJ0_coder_7d493 1 (some .byte) 0 := ⟨⟨im_J0_coder_7d493, sl_J0_coder_7d493⟩, ini_J0, cd_J0_coder_7d493, by decide +kernel, by decide⟩
theorem mJ1_indexOf_4cfef : xMS yJ1_indexOf_4cfef cJ1_indexOf_4cfef 4 (some .int) 4 := ⟨sm_J1_indexOf_4cfef, ini_J1, cd_J1_indexOf_4cfef, by decide +kernel, by decide⟩
theorem mJ1_canEncode_9a6ad : xMS yJ1_canEncode_9a6ad cJ1_canEncode_9a6ad 1 (some .boolean) 1 := ⟨sm_J1_canEncode_9a6ad, ini_J1, cd_J1_canEncode_9a6ad, by decide +kernel, by decide⟩
theorem mJ1_indexOfChar_4cfef : xMS yJ1_indexOfChar_4cfef cJ1_indexOfChar_4cfef 6 (some .int) 4 := ⟨sm_J1_indexOfChar_4cfef, ini_J1, cd_J1_indexOfChar_4cfef, by decide +kernel, by decide⟩
theorem mJ2_indexOf_4cfef : xMS yJ2_indexOf_4cfef cJ2_indexOf_4cfef 4 (some .int) 4 := ⟨sm_J2_indexOf_4cfef, ini_J2, cd_J2_indexOf_4cfef, by decide +kernel, by decide⟩
theorem mJ2_indexOfChar_4cfef : xMS yJ2_indexOfChar_4cfef cJ2_indexOfChar_4cfef 4 (some .int) 4 := ⟨sm_J2_indexOfChar_4cfef, ini_J2, cd_J2_indexOfChar_4cfef, by decide +kernel, by decide⟩
theorem mJ2_checkBoundsBeginEnd_d044e : xMS yJ2_checkBoundsBeginEnd_d044e cJ2_checkBoundsBeginEnd_d044e 3 none 3 := ⟨sm_J2_checkBoundsBeginEnd_d044e, ini_J2, cd_J2_checkBoundsBeginEnd_d044e, by decide +kernel, by decide⟩
theorem mJ2_length_9d52b : xMS yJ2_length_9d52b cJ2_length_9d52b 1 (some .int) 1 := ⟨sm_J2_length_9d52b, ini_J2, cd_J2_length_9d52b, by decide +kernel, by decide⟩
theorem mJ0_checkBoundsBeginEnd_23922 : xMS yJ0_checkBoundsBeginEnd_23922 cJ0_checkBoundsBeginEnd_23922 3 none 3 := ⟨sm_J0_checkBoundsBeginEnd_23922, ini_J0, cd_J0_checkBoundsBeginEnd_23922, by decide +kernel, by decide⟩
theorem mJ3_checkFromToIndex_8c36e : xMS yJ3_checkFromToIndex_8c36e cJ3_checkFromToIndex_8c36e 4 (some .int) 4 := ⟨sm_J3_checkFromToIndex_8c36e, ini_J3, cd_J3_checkFromToIndex_8c36e, by decide +kernel, by decide⟩
theorem mJ2_indexOfCharUnsafe_4cfef : xMS yJ2_indexOfCharUnsafe_4cfef cJ2_indexOfCharUnsafe_4cfef 5 (some .int) 4 := ⟨sm_J2_indexOfCharUnsafe_4cfef, ini_J2, cd_J2_indexOfCharUnsafe_4cfef, by decide +kernel, by decide⟩
theorem mJ2_getChar_3b067 : xMS yJ2_getChar_3b067 cJ2_getChar_3b067 2 (some .char) 2 := ⟨sm_J2_getChar_3b067, ini_J2, cd_J2_getChar_3b067, by decide +kernel, by decide⟩
theorem mJ2_indexOfSupplementary_4cfef : xMS yJ2_indexOfSupplementary_4cfef cJ2_indexOfSupplementary_4cfef 7 (some .int) 4 := ⟨sm_J2_indexOfSupplementary_4cfef, ini_J2, cd_J2_indexOfSupplementary_4cfef, by decide +kernel, by decide⟩
theorem mJ11_isValidCodePoint_9a6ad : xMS yJ11_isValidCodePoint_9a6ad cJ11_isValidCodePoint_9a6ad 2 (some .boolean) 1 := ⟨sm_J11_isValidCodePoint_9a6ad, ini_J11, cd_J11_isValidCodePoint_9a6ad, by decide +kernel, by decide⟩
theorem mJ11_highSurrogate_5068e : xMS yJ11_highSurrogate_5068e cJ11_highSurrogate_5068e 1 (some .char) 1 := ⟨sm_J11_highSurrogate_5068e, ini_J11, cd_J11_highSurrogate_5068e, by decide +kernel, by decide⟩
theorem mJ11_lowSurrogate_5068e : xMS yJ11_lowSurrogate_5068e cJ11_lowSurrogate_5068e 1 (some .char) 1 := ⟨sm_J11_lowSurrogate_5068e, ini_J11, cd_J11_lowSurrogate_5068e, by decide +kernel, by decide⟩
theorem mX1_sees : xMV yX1_sees cX1_sees 2 (some .boolean) 1 := ⟨⟨im_X1_sees, sl_X1_sees⟩, ini_X1, cd_X1_sees, by decide +kernel, by decide⟩
theorem mX1_readBracket : xMV yX1_readBracket cX1_readBracket 2 none 1 := ⟨⟨im_X1_readBracket, sl_X1_readBracket⟩, ini_X1, cd_X1_readBracket, by decide +kernel, by decide⟩
theorem mX1_pass : xMV yX1_pass cX1_pass 2 none 1 := ⟨⟨im_X1_pass, sl_X1_pass⟩, ini_X1, cd_X1_pass, by decide +kernel, by decide⟩
theorem mX1_putCodeInto : xMV yX1_putCodeInto cX1_putCodeInto 3 (some .int) 1 := ⟨⟨im_X1_putCodeInto, sl_X1_putCodeInto⟩, ini_X1, cd_X1_putCodeInto, by decide +kernel, by decide⟩
theorem mX8_even : xMV yX8_even cX8_even 2 (some .int) 0 := ⟨⟨im_X8_even, sl_X8_even⟩, ini_X8, cd_X8_even, by decide +kernel, by decide⟩
theorem mX8_rule : xMV yX8_rule cX8_rule 4 (some .int) 2 := ⟨⟨im_X8_rule, sl_X8_rule⟩, ini_X8, cd_X8_rule, by decide +kernel, by decide⟩
theorem mX8_seed : xMV yX8_seed cX8_seed 3 (some .int) 1 := ⟨⟨im_X8_seed, sl_X8_seed⟩, ini_X8, cd_X8_seed, by decide +kernel, by decide⟩
theorem mX8_week : xMV yX8_week cX8_week 2 (some .int) 0 := ⟨⟨im_X8_week, sl_X8_week⟩, ini_X8, cd_X8_week, by decide +kernel, by decide⟩
theorem mX6_isBookFull : xMV yX6_isBookFull cX6_isBookFull 1 (some .boolean) 0 := ⟨⟨im_X6_isBookFull, sl_X6_isBookFull⟩, ini_X6, cd_X6_isBookFull, by decide +kernel, by decide⟩
theorem mX8_drawByLots : xMV yX8_drawByLots cX8_drawByLots 3 (some .int) 0 := ⟨⟨im_X8_drawByLots, sl_X8_drawByLots⟩, ini_X8, cd_X8_drawByLots, by decide +kernel, by decide⟩
theorem mX8_holdWeek : xMV yX8_holdWeek cX8_holdWeek 2 none 1 := ⟨⟨im_X8_holdWeek, sl_X8_holdWeek⟩, ini_X8, cd_X8_holdWeek, by decide +kernel, by decide⟩
theorem mX6_enterWeek : xMV yX6_enterWeek cX6_enterWeek 12 none 2 := ⟨⟨im_X6_enterWeek, sl_X6_enterWeek⟩, ini_X6, cd_X6_enterWeek, by decide +kernel, by decide⟩
theorem mX6_potWithIn : xMV yX6_potWithIn cX6_potWithIn 5 (some .long) 2 := ⟨⟨im_X6_potWithIn, sl_X6_potWithIn⟩, ini_X6, cd_X6_potWithIn, by decide +kernel, by decide⟩
theorem mX0_tellWinners : xMV yX0_tellWinners cX0_tellWinners 4 none 1 := ⟨⟨im_X0_tellWinners, sl_X0_tellWinners⟩, ini_X0, cd_X0_tellWinners, by decide +kernel, by decide⟩
theorem mX6_rankPart : xMV yX6_rankPart cX6_rankPart 4 (some .long) 2 := ⟨⟨im_X6_rankPart, sl_X6_rankPart⟩, ini_X6, cd_X6_rankPart, by decide +kernel, by decide⟩
theorem mX8_told : xMV yX8_told cX8_told 2 (some .int) 1 := ⟨⟨im_X8_told, sl_X8_told⟩, ini_X8, cd_X8_told, by decide +kernel, by decide⟩
theorem mX8_book : xMV yX8_book cX8_book 3 (some .int) 2 := ⟨⟨im_X8_book, sl_X8_book⟩, ini_X8, cd_X8_book, by decide +kernel, by decide⟩
theorem mX8_now : xMV yX8_now cX8_now 1 (some .int) 0 := ⟨⟨im_X8_now, sl_X8_now⟩, ini_X8, cd_X8_now, by decide +kernel, by decide⟩
theorem mX8_worth : xMV yX8_worth cX8_worth 2 (some .int) 1 := ⟨⟨im_X8_worth, sl_X8_worth⟩, ini_X8, cd_X8_worth, by decide +kernel, by decide⟩
theorem mX0_settleWinners : xMV yX0_settleWinners cX0_settleWinners 2 none 0 := ⟨⟨im_X0_settleWinners, sl_X0_settleWinners⟩, ini_X0, cd_X0_settleWinners, by decide +kernel, by decide⟩
theorem mX3_gather : xMV yX3_gather cX3_gather 3 none 0 := ⟨⟨im_X3_gather, sl_X3_gather⟩, ini_X3, cd_X3_gather, by decide +kernel, by decide⟩
theorem mJ7_fill_d0a16 : xMS yJ7_fill_d0a16 cJ7_fill_d0a16 5 none 2 := ⟨sm_J7_fill_d0a16, ini_J7, cd_J7_fill_d0a16, by decide +kernel, by decide⟩
theorem mX3_mark : xMV yX3_mark cX3_mark 9 none 1 := ⟨⟨im_X3_mark, sl_X3_mark⟩, ini_X3, cd_X3_mark, by decide +kernel, by decide⟩
theorem mX3_ofRank : xMV yX3_ofRank cX3_ofRank 10 (some .long) 2 := ⟨⟨im_X3_ofRank, sl_X3_ofRank⟩, ini_X3, cd_X3_ofRank, by decide +kernel, by decide⟩
theorem mX7_worthOf : xMV yX7_worthOf cX7_worthOf 18 (some .long) 2 := ⟨⟨im_X7_worthOf, sl_X7_worthOf⟩, ini_X7, cd_X7_worthOf, by decide +kernel, by decide⟩
theorem mX0_winnersAt : xMV yX0_winnersAt cX0_winnersAt 3 (some .int) 2 := ⟨⟨im_X0_winnersAt, sl_X0_winnersAt⟩, ini_X0, cd_X0_winnersAt, by decide +kernel, by decide⟩
theorem mX7_oneGets : xMV yX7_oneGets cX7_oneGets 8 (some .long) 3 := ⟨⟨im_X7_oneGets, sl_X7_oneGets⟩, ini_X7, cd_X7_oneGets, by decide +kernel, by decide⟩
theorem mX6_lessTax : xMV yX6_lessTax cX6_lessTax 5 (some .long) 1 := ⟨⟨im_X6_lessTax, sl_X6_lessTax⟩, ini_X6, cd_X6_lessTax, by decide +kernel, by decide⟩
theorem mX8_best : xMV yX8_best cX8_best 3 (some .int) 1 := ⟨⟨im_X8_best, sl_X8_best⟩, ini_X8, cd_X8_best, by decide +kernel, by decide⟩
theorem mX7_bestPlace : xMV yX7_bestPlace cX7_bestPlace 7 (some .int) 0 := ⟨⟨im_X7_bestPlace, sl_X7_bestPlace⟩, ini_X7, cd_X7_bestPlace, by decide +kernel, by decide⟩
theorem mX8_alone : xMV yX8_alone cX8_alone 5 (some .int) 1 := ⟨⟨im_X8_alone, sl_X8_alone⟩, ini_X8, cd_X8_alone, by decide +kernel, by decide⟩
theorem mX8_line : xMV yX8_line cX8_line 3 (some .int) 1 := ⟨⟨im_X8_line, sl_X8_line⟩, ini_X8, cd_X8_line, by decide +kernel, by decide⟩
theorem mX7_leastPot : xMV yX7_leastPot cX7_leastPot 7 (some .int) 1 := ⟨⟨im_X7_leastPot, sl_X7_leastPot⟩, ini_X7, cd_X7_leastPot, by decide +kernel, by decide⟩
theorem mX8_house : xMV yX8_house cX8_house 2 (some .long) 1 := ⟨⟨im_X8_house, sl_X8_house⟩, ini_X8, cd_X8_house, by decide +kernel, by decide⟩
theorem mX7_houseOf : xMV yX7_houseOf cX7_houseOf 12 (some .long) 1 := ⟨⟨im_X7_houseOf, sl_X7_houseOf⟩, ini_X7, cd_X7_houseOf, by decide +kernel, by decide⟩
theorem mX7_takeLeastCrossed : xMV yX7_takeLeastCrossed cX7_takeLeastCrossed 7 none 1 := ⟨⟨im_X7_takeLeastCrossed, sl_X7_takeLeastCrossed⟩, ini_X7, cd_X7_takeLeastCrossed, by decide +kernel, by decide⟩
theorem mX7_leastBound : xMV yX7_leastBound cX7_leastBound 6 (some .int) 1 := ⟨⟨im_X7_leastBound, sl_X7_leastBound⟩, ini_X7, cd_X7_leastBound, by decide +kernel, by decide⟩
theorem mX7_countUpTo : xMV yX7_countUpTo cX7_countUpTo 4 (some .int) 1 := ⟨⟨im_X7_countUpTo, sl_X7_countUpTo⟩, ini_X7, cd_X7_countUpTo, by decide +kernel, by decide⟩
theorem mX8_seek : xMV yX8_seek cX8_seek 3 (some .int) 2 := ⟨⟨im_X8_seek, sl_X8_seek⟩, ini_X8, cd_X8_seek, by decide +kernel, by decide⟩
theorem mX7_afterSeekers : xMV yX7_afterSeekers cX7_afterSeekers 6 (some .int) 2 := ⟨⟨im_X7_afterSeekers, sl_X7_afterSeekers⟩, ini_X7, cd_X7_afterSeekers, by decide +kernel, by decide⟩
theorem mX7_leastTaken : xMV yX7_leastTaken cX7_leastTaken 3 (some .int) 0 := ⟨⟨im_X7_leastTaken, sl_X7_leastTaken⟩, ini_X7, cd_X7_leastTaken, by decide +kernel, by decide⟩
theorem mX8_shares : xMV yX8_shares cX8_shares 2 (some .int) 1 := ⟨⟨im_X8_shares, sl_X8_shares⟩, ini_X8, cd_X8_shares, by decide +kernel, by decide⟩
theorem mX8_due : xMV yX8_due cX8_due 3 (some .int) 1 := ⟨⟨im_X8_due, sl_X8_due⟩, ini_X8, cd_X8_due, by decide +kernel, by decide⟩
theorem mX8_isNumber : xMS yX8_isNumber cX8_isNumber 1 (some .boolean) 1 := ⟨sm_X8_isNumber, ini_X8, cd_X8_isNumber, by decide +kernel, by decide⟩
theorem mX6_cameIn : xMV yX6_cameIn cX6_cameIn 3 (some .boolean) 2 := ⟨⟨im_X6_cameIn, sl_X6_cameIn⟩, ini_X6, cd_X6_cameIn, by decide +kernel, by decide⟩
theorem mX8_came : xMV yX8_came cX8_came 2 (some .int) 1 := ⟨⟨im_X8_came, sl_X8_came⟩, ini_X8, cd_X8_came, by decide +kernel, by decide⟩
theorem mX6_timesOf : xMV yX6_timesOf cX6_timesOf 4 (some .int) 1 := ⟨⟨im_X6_timesOf, sl_X6_timesOf⟩, ini_X6, cd_X6_timesOf, by decide +kernel, by decide⟩
theorem mX8_drum : xMV yX8_drum cX8_drum 6 (some .long) 0 := ⟨⟨im_X8_drum, sl_X8_drum⟩, ini_X8, cd_X8_drum, by decide +kernel, by decide⟩
theorem mX8_felt : xMV yX8_felt cX8_felt 4 (some .int) 1 := ⟨⟨im_X8_felt, sl_X8_felt⟩, ini_X8, cd_X8_felt, by decide +kernel, by decide⟩
theorem mX6_rankTwoWinners : xMV yX6_rankTwoWinners cX6_rankTwoWinners 5 (some .int) 2 := ⟨⟨im_X6_rankTwoWinners, sl_X6_rankTwoWinners⟩, ini_X6, cd_X6_rankTwoWinners, by decide +kernel, by decide⟩
theorem mX8_sheet : xMV yX8_sheet cX8_sheet 4 (some .int) 3 := ⟨⟨im_X8_sheet, sl_X8_sheet⟩, ini_X8, cd_X8_sheet, by decide +kernel, by decide⟩
theorem mX8_isSheet : xMS yX8_isSheet cX8_isSheet 1 (some .boolean) 1 := ⟨sm_X8_isSheet, ini_X8, cd_X8_isSheet, by decide +kernel, by decide⟩
theorem mX4_isWidth : xMS yX4_isWidth cX4_isWidth 1 (some .boolean) 1 := ⟨sm_X4_isWidth, ini_X4, cd_X4_isWidth, by decide +kernel, by decide⟩
theorem mX4_lay : xMV yX4_lay cX4_lay 3 (some .int) 2 := ⟨⟨im_X4_lay, sl_X4_lay⟩, ini_X4, cd_X4_lay, by decide +kernel, by decide⟩
theorem mX8_write : xMV yX8_write cX8_write 8 (some .long) 3 := ⟨⟨im_X8_write, sl_X8_write⟩, ini_X8, cd_X8_write, by decide +kernel, by decide⟩
theorem mX4_lowestBits : xMV yX4_lowestBits cX4_lowestBits 3 (some .long) 1 := ⟨⟨im_X4_lowestBits, sl_X4_lowestBits⟩, ini_X4, cd_X4_lowestBits, by decide +kernel, by decide⟩
theorem mX8_copy : xMV yX8_copy cX8_copy 8 (some .int) 5 := ⟨⟨im_X8_copy, sl_X8_copy⟩, ini_X8, cd_X8_copy, by decide +kernel, by decide⟩
theorem mX4_holds : xMV yX4_holds cX4_holds 3 (some .boolean) 2 := ⟨⟨im_X4_holds, sl_X4_holds⟩, ini_X4, cd_X4_holds, by decide +kernel, by decide⟩
theorem mX8_weeks : xMV yX8_weeks cX8_weeks 5 (some .int) 1 := ⟨⟨im_X8_weeks, sl_X8_weeks⟩, ini_X8, cd_X8_weeks, by decide +kernel, by decide⟩
theorem mX8_read : xMV yX8_read cX8_read 4 (some .int) 1 := ⟨⟨im_X8_read, sl_X8_read⟩, ini_X8, cd_X8_read, by decide +kernel, by decide⟩
theorem mX8_image : xMV yX8_image cX8_image 1 (some .int) 0 := ⟨⟨im_X8_image, sl_X8_image⟩, ini_X8, cd_X8_image, by decide +kernel, by decide⟩
theorem mX6_becomes : xMV yX6_becomes cX6_becomes 2 none 1 := ⟨⟨im_X6_becomes, sl_X6_becomes⟩, ini_X6, cd_X6_becomes, by decide +kernel, by decide⟩
theorem mX8_undo : xMV yX8_undo cX8_undo 1 (some .int) 0 := ⟨⟨im_X8_undo, sl_X8_undo⟩, ini_X8, cd_X8_undo, by decide +kernel, by decide⟩
theorem mX8_tear : xMV yX8_tear cX8_tear 2 (some .int) 0 := ⟨⟨im_X8_tear, sl_X8_tear⟩, ini_X8, cd_X8_tear, by decide +kernel, by decide⟩
theorem mX8_count : xMV yX8_count cX8_count 2 (some .int) 1 := ⟨⟨im_X8_count, sl_X8_count⟩, ini_X8, cd_X8_count, by decide +kernel, by decide⟩
theorem mX8_status : xMV yX8_status cX8_status 4 (some .int) 1 := ⟨⟨im_X8_status, sl_X8_status⟩, ini_X8, cd_X8_status, by decide +kernel, by decide⟩
theorem mX9_init : xMI yX9_init cX9_init 4 0 := ⟨⟨im_X9_init, rfl⟩, ini_X9, cd_X9_init, by decide +kernel, by decide⟩
theorem mX9_looksAt : xMV yX9_looksAt cX9_looksAt 7 none 2 := ⟨⟨im_X9_looksAt, sl_X9_looksAt⟩, ini_X9, cd_X9_looksAt, by decide +kernel, by decide⟩
theorem mX9_has : xMS yX9_has cX9_has 2 (some .boolean) 2 := ⟨sm_X9_has, ini_X9, cd_X9_has, by decide +kernel, by decide⟩
theorem mX9_place : xMV yX9_place cX9_place 2 (some .int) 1 := ⟨⟨im_X9_place, sl_X9_place⟩, ini_X9, cd_X9_place, by decide +kernel, by decide⟩
theorem mX9_finds : xMV yX9_finds cX9_finds 2 (some .int) 1 := ⟨⟨im_X9_finds, sl_X9_finds⟩, ini_X9, cd_X9_finds, by decide +kernel, by decide⟩
theorem mX9_row : xMV yX9_row cX9_row 2 (some .int) 1 := ⟨⟨im_X9_row, sl_X9_row⟩, ini_X9, cd_X9_row, by decide +kernel, by decide⟩
theorem mX9_isPlace : xMS yX9_isPlace cX9_isPlace 1 (some .boolean) 1 := ⟨sm_X9_isPlace, ini_X9, cd_X9_isPlace, by decide +kernel, by decide⟩
theorem mX9_people : xMV yX9_people cX9_people 3 (some .int) 2 := ⟨⟨im_X9_people, sl_X9_people⟩, ini_X9, cd_X9_people, by decide +kernel, by decide⟩
theorem mX9_isIn : xMS yX9_isIn cX9_isIn 6 (some .boolean) 3 := ⟨sm_X9_isIn, ini_X9, cd_X9_isIn, by decide +kernel, by decide⟩
theorem mX9_of : xMV yX9_of cX9_of 3 (some .int) 2 := ⟨⟨im_X9_of, sl_X9_of⟩, ini_X9, cd_X9_of, by decide +kernel, by decide⟩
theorem mX9_isPeople : xMV yX9_isPeople cX9_isPeople 2 (some .boolean) 1 := ⟨⟨im_X9_isPeople, sl_X9_isPeople⟩, ini_X9, cd_X9_isPeople, by decide +kernel, by decide⟩
theorem mX9_many : xMV yX9_many cX9_many 4 (some .int) 2 := ⟨⟨im_X9_many, sl_X9_many⟩, ini_X9, cd_X9_many, by decide +kernel, by decide⟩
theorem mX9_as : xMV yX9_as cX9_as 4 (some .int) 2 := ⟨⟨im_X9_as, sl_X9_as⟩, ini_X9, cd_X9_as, by decide +kernel, by decide⟩
theorem mX9_above : xMS yX9_above cX9_above 1 (some .int) 1 := ⟨sm_X9_above, ini_X9, cd_X9_above, by decide +kernel, by decide⟩
theorem mX9_feed : xMV yX9_feed cX9_feed 4 (some .int) 2 := ⟨⟨im_X9_feed, sl_X9_feed⟩, ini_X9, cd_X9_feed, by decide +kernel, by decide⟩
theorem mX9_wipe : xMV yX9_wipe cX9_wipe 2 (some .int) 0 := ⟨⟨im_X9_wipe, sl_X9_wipe⟩, ini_X9, cd_X9_wipe, by decide +kernel, by decide⟩
theorem mX9_liking : xMV yX9_liking cX9_liking 3 (some .int) 0 := ⟨⟨im_X9_liking, sl_X9_liking⟩, ini_X9, cd_X9_liking, by decide +kernel, by decide⟩
theorem mX9_says : xMV yX9_says cX9_says 3 (some .int) 1 := ⟨⟨im_X9_says, sl_X9_says⟩, ini_X9, cd_X9_says, by decide +kernel, by decide⟩
theorem mX9_sum : xMV yX9_sum cX9_sum 5 (some .int) 0 := ⟨⟨im_X9_sum, sl_X9_sum⟩, ini_X9, cd_X9_sum, by decide +kernel, by decide⟩
theorem mX9_term : xMV yX9_term cX9_term 2 (some .int) 0 := ⟨⟨im_X9_term, sl_X9_term⟩, ini_X9, cd_X9_term, by decide +kernel, by decide⟩
theorem mX9_factor : xMV yX9_factor cX9_factor 3 (some .int) 0 := ⟨⟨im_X9_factor, sl_X9_factor⟩, ini_X9, cd_X9_factor, by decide +kernel, by decide⟩
theorem mX9_byteHere : xMV yX9_byteHere cX9_byteHere 1 (some .int) 0 := ⟨⟨im_X9_byteHere, sl_X9_byteHere⟩, ini_X9, cd_X9_byteHere, by decide +kernel, by decide⟩
theorem mX9_end : xMV yX9_end cX9_end 1 (some .int) 0 := ⟨⟨im_X9_end, sl_X9_end⟩, ini_X9, cd_X9_end, by decide +kernel, by decide⟩
theorem mX9_number : xMV yX9_number cX9_number 3 (some .int) 0 := ⟨⟨im_X9_number, sl_X9_number⟩, ini_X9, cd_X9_number, by decide +kernel, by decide⟩
theorem mX9_choice : xMV yX9_choice cX9_choice 4 (some .int) 0 := ⟨⟨im_X9_choice, sl_X9_choice⟩, ini_X9, cd_X9_choice, by decide +kernel, by decide⟩
theorem mX9_takes : xMV yX9_takes cX9_takes 2 (some .boolean) 1 := ⟨⟨im_X9_takes, sl_X9_takes⟩, ini_X9, cd_X9_takes, by decide +kernel, by decide⟩
theorem mX9_must : xMV yX9_must cX9_must 2 none 1 := ⟨⟨im_X9_must, sl_X9_must⟩, ini_X9, cd_X9_must, by decide +kernel, by decide⟩
theorem mX9_named : xMV yX9_named cX9_named 2 (some .int) 1 := ⟨⟨im_X9_named, sl_X9_named⟩, ini_X9, cd_X9_named, by decide +kernel, by decide⟩
theorem mX9_latest : xMV yX9_latest cX9_latest 1 (some .int) 0 := ⟨⟨im_X9_latest, sl_X9_latest⟩, ini_X9, cd_X9_latest, by decide +kernel, by decide⟩
theorem mX9_ones : xMV yX9_ones cX9_ones 2 (some .int) 1 := ⟨⟨im_X9_ones, sl_X9_ones⟩, ini_X9, cd_X9_ones, by decide +kernel, by decide⟩
theorem mX9_even : xMV yX9_even cX9_even 2 (some .int) 0 := ⟨⟨im_X9_even, sl_X9_even⟩, ini_X9, cd_X9_even, by decide +kernel, by decide⟩
theorem mX9_likes : xMV yX9_likes cX9_likes 3 (some .int) 2 := ⟨⟨im_X9_likes, sl_X9_likes⟩, ini_X9, cd_X9_likes, by decide +kernel, by decide⟩
theorem mX9_works : xMV yX9_works cX9_works 3 none 0 := ⟨⟨im_X9_works, sl_X9_works⟩, ini_X9, cd_X9_works, by decide +kernel, by decide⟩
theorem mX9_likesBy : xMV yX9_likesBy cX9_likesBy 3 (some .int) 2 := ⟨⟨im_X9_likesBy, sl_X9_likesBy⟩, ini_X9, cd_X9_likesBy, by decide +kernel, by decide⟩
theorem mX9_fancied : xMV yX9_fancied cX9_fancied 6 (some .int) 4 := ⟨⟨im_X9_fancied, sl_X9_fancied⟩, ini_X9, cd_X9_fancied, by decide +kernel, by decide⟩
theorem mX9_isOneLine : xMS yX9_isOneLine cX9_isOneLine 1 (some .boolean) 1 := ⟨sm_X9_isOneLine, ini_X9, cd_X9_isOneLine, by decide +kernel, by decide⟩
theorem mX9_isThreeUp : xMV yX9_isThreeUp cX9_isThreeUp 4 (some .boolean) 1 := ⟨⟨im_X9_isThreeUp, sl_X9_isThreeUp⟩, ini_X9, cd_X9_isThreeUp, by decide +kernel, by decide⟩
theorem mX9_crossedBy : xMV yX9_crossedBy cX9_crossedBy 3 (some .int) 2 := ⟨⟨im_X9_crossedBy, sl_X9_crossedBy⟩, ini_X9, cd_X9_crossedBy, by decide +kernel, by decide⟩
theorem mX9_crossed : xMV yX9_crossed cX9_crossed 3 (some .int) 2 := ⟨⟨im_X9_crossed, sl_X9_crossed⟩, ini_X9, cd_X9_crossed, by decide +kernel, by decide⟩
theorem mX9_buys : xMV yX9_buys cX9_buys 4 (some .int) 2 := ⟨⟨im_X9_buys, sl_X9_buys⟩, ini_X9, cd_X9_buys, by decide +kernel, by decide⟩
theorem mX9_returned : xMV yX9_returned cX9_returned 3 (some .int) 0 := ⟨⟨im_X9_returned, sl_X9_returned⟩, ini_X9, cd_X9_returned, by decide +kernel, by decide⟩
theorem mX9_rule : xMV yX9_rule cX9_rule 5 (some .int) 2 := ⟨⟨im_X9_rule, sl_X9_rule⟩, ini_X9, cd_X9_rule, by decide +kernel, by decide⟩
theorem mX9_seed : xMV yX9_seed cX9_seed 3 (some .int) 1 := ⟨⟨im_X9_seed, sl_X9_seed⟩, ini_X9, cd_X9_seed, by decide +kernel, by decide⟩
theorem mX9_week : xMV yX9_week cX9_week 2 (some .int) 0 := ⟨⟨im_X9_week, sl_X9_week⟩, ini_X9, cd_X9_week, by decide +kernel, by decide⟩
theorem mX9_goes : xMV yX9_goes cX9_goes 11 none 1 := ⟨⟨im_X9_goes, sl_X9_goes⟩, ini_X9, cd_X9_goes, by decide +kernel, by decide⟩
theorem mX9_potWith : xMV yX9_potWith cX9_potWith 2 (some .long) 1 := ⟨⟨im_X9_potWith, sl_X9_potWith⟩, ini_X9, cd_X9_potWith, by decide +kernel, by decide⟩
theorem mX9_shareOf : xMV yX9_shareOf cX9_shareOf 4 (some .long) 2 := ⟨⟨im_X9_shareOf, sl_X9_shareOf⟩, ini_X9, cd_X9_shareOf, by decide +kernel, by decide⟩
theorem mX9_told : xMV yX9_told cX9_told 2 (some .int) 1 := ⟨⟨im_X9_told, sl_X9_told⟩, ini_X9, cd_X9_told, by decide +kernel, by decide⟩
theorem mX9_book : xMV yX9_book cX9_book 3 (some .int) 2 := ⟨⟨im_X9_book, sl_X9_book⟩, ini_X9, cd_X9_book, by decide +kernel, by decide⟩
theorem mX9_now : xMV yX9_now cX9_now 1 (some .int) 0 := ⟨⟨im_X9_now, sl_X9_now⟩, ini_X9, cd_X9_now, by decide +kernel, by decide⟩
theorem mX9_worth : xMV yX9_worth cX9_worth 2 (some .int) 1 := ⟨⟨im_X9_worth, sl_X9_worth⟩, ini_X9, cd_X9_worth, by decide +kernel, by decide⟩
theorem mX9_worthOf : xMV yX9_worthOf cX9_worthOf 4 (some .int) 2 := ⟨⟨im_X9_worthOf, sl_X9_worthOf⟩, ini_X9, cd_X9_worthOf, by decide +kernel, by decide⟩
theorem mX9_getsAll : xMV yX9_getsAll cX9_getsAll 8 (some .long) 2 := ⟨⟨im_X9_getsAll, sl_X9_getsAll⟩, ini_X9, cd_X9_getsAll, by decide +kernel, by decide⟩
theorem mX9_counts : xMV yX9_counts cX9_counts 4 none 0 := ⟨⟨im_X9_counts, sl_X9_counts⟩, ini_X9, cd_X9_counts, by decide +kernel, by decide⟩
theorem mX9_taxed : xMV yX9_taxed cX9_taxed 3 (some .long) 1 := ⟨⟨im_X9_taxed, sl_X9_taxed⟩, ini_X9, cd_X9_taxed, by decide +kernel, by decide⟩
theorem mX9_best : xMV yX9_best cX9_best 8 (some .int) 1 := ⟨⟨im_X9_best, sl_X9_best⟩, ini_X9, cd_X9_best, by decide +kernel, by decide⟩
theorem mX9_alone : xMV yX9_alone cX9_alone 5 (some .int) 1 := ⟨⟨im_X9_alone, sl_X9_alone⟩, ini_X9, cd_X9_alone, by decide +kernel, by decide⟩
theorem mX9_line : xMV yX9_line cX9_line 6 (some .int) 1 := ⟨⟨im_X9_line, sl_X9_line⟩, ini_X9, cd_X9_line, by decide +kernel, by decide⟩
theorem mX9_house : xMV yX9_house cX9_house 8 (some .long) 1 := ⟨⟨im_X9_house, sl_X9_house⟩, ini_X9, cd_X9_house, by decide +kernel, by decide⟩
theorem mX9_begins : xMV yX9_begins cX9_begins 2 none 0 := ⟨⟨im_X9_begins, sl_X9_begins⟩, ini_X9, cd_X9_begins, by decide +kernel, by decide⟩
theorem mX9_rarest : xMV yX9_rarest cX9_rarest 3 (some .int) 0 := ⟨⟨im_X9_rarest, sl_X9_rarest⟩, ini_X9, cd_X9_rarest, by decide +kernel, by decide⟩
theorem mX9_seek : xMV yX9_seek cX9_seek 6 (some .int) 2 := ⟨⟨im_X9_seek, sl_X9_seek⟩, ini_X9, cd_X9_seek, by decide +kernel, by decide⟩
theorem mX9_shares : xMV yX9_shares cX9_shares 2 (some .int) 1 := ⟨⟨im_X9_shares, sl_X9_shares⟩, ini_X9, cd_X9_shares, by decide +kernel, by decide⟩
theorem mX9_due : xMV yX9_due cX9_due 3 (some .int) 1 := ⟨⟨im_X9_due, sl_X9_due⟩, ini_X9, cd_X9_due, by decide +kernel, by decide⟩
theorem mX9_drawAt : xMV yX9_drawAt cX9_drawAt 2 (some .int) 1 := ⟨⟨im_X9_drawAt, sl_X9_drawAt⟩, ini_X9, cd_X9_drawAt, by decide +kernel, by decide⟩
theorem mX9_came : xMV yX9_came cX9_came 2 (some .int) 1 := ⟨⟨im_X9_came, sl_X9_came⟩, ini_X9, cd_X9_came, by decide +kernel, by decide⟩
theorem mX9_timesOf : xMV yX9_timesOf cX9_timesOf 4 (some .int) 1 := ⟨⟨im_X9_timesOf, sl_X9_timesOf⟩, ini_X9, cd_X9_timesOf, by decide +kernel, by decide⟩
theorem mX9_drum : xMV yX9_drum cX9_drum 6 (some .long) 0 := ⟨⟨im_X9_drum, sl_X9_drum⟩, ini_X9, cd_X9_drum, by decide +kernel, by decide⟩
theorem mX9_felt : xMV yX9_felt cX9_felt 7 (some .int) 1 := ⟨⟨im_X9_felt, sl_X9_felt⟩, ini_X9, cd_X9_felt, by decide +kernel, by decide⟩
theorem mX9_sheet : xMV yX9_sheet cX9_sheet 5 (some .int) 3 := ⟨⟨im_X9_sheet, sl_X9_sheet⟩, ini_X9, cd_X9_sheet, by decide +kernel, by decide⟩
theorem mX9_isSheet : xMS yX9_isSheet cX9_isSheet 1 (some .boolean) 1 := ⟨sm_X9_isSheet, ini_X9, cd_X9_isSheet, by decide +kernel, by decide⟩
theorem mX9_write : xMV yX9_write cX9_write 7 (some .long) 3 := ⟨⟨im_X9_write, sl_X9_write⟩, ini_X9, cd_X9_write, by decide +kernel, by decide⟩
theorem mX9_narrow : xMS yX9_narrow cX9_narrow 3 (some .long) 2 := ⟨sm_X9_narrow, ini_X9, cd_X9_narrow, by decide +kernel, by decide⟩
theorem mX9_copy : xMV yX9_copy cX9_copy 10 (some .int) 5 := ⟨⟨im_X9_copy, sl_X9_copy⟩, ini_X9, cd_X9_copy, by decide +kernel, by decide⟩
theorem mX9_weeks : xMV yX9_weeks cX9_weeks 6 (some .int) 1 := ⟨⟨im_X9_weeks, sl_X9_weeks⟩, ini_X9, cd_X9_weeks, by decide +kernel, by decide⟩
theorem mX9_read : xMV yX9_read cX9_read 3 (some .int) 1 := ⟨⟨im_X9_read, sl_X9_read⟩, ini_X9, cd_X9_read, by decide +kernel, by decide⟩
theorem mX9_image : xMV yX9_image cX9_image 2 (some .int) 0 := ⟨⟨im_X9_image, sl_X9_image⟩, ini_X9, cd_X9_image, by decide +kernel, by decide⟩
theorem mX9_undo : xMV yX9_undo cX9_undo 2 (some .int) 0 := ⟨⟨im_X9_undo, sl_X9_undo⟩, ini_X9, cd_X9_undo, by decide +kernel, by decide⟩
theorem mX9_tear : xMV yX9_tear cX9_tear 2 (some .int) 0 := ⟨⟨im_X9_tear, sl_X9_tear⟩, ini_X9, cd_X9_tear, by decide +kernel, by decide⟩
theorem mX9_count : xMV yX9_count cX9_count 2 (some .int) 1 := ⟨⟨im_X9_count, sl_X9_count⟩, ini_X9, cd_X9_count, by decide +kernel, by decide⟩
theorem mX9_status : xMV yX9_status cX9_status 2 (some .int) 1 := ⟨⟨im_X9_status, sl_X9_status⟩, ini_X9, cd_X9_status, by decide +kernel, by decide⟩
