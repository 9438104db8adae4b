/-! CHECK, the kernel: rows of methods -/
theorem ok_X12_init_0 : tb_X12_init_0.all (enOk yX12_init cX12_init 1 RX12) = true := by decide +kernel
theorem ok_X12_init_1 : tb_X12_init_1.all (enOk yX12_init cX12_init 1 RX12) = true := by decide +kernel
theorem ok_X12_init_2 : tb_X12_init_2.all (enOk yX12_init cX12_init 1 RX12) = true := by decide +kernel
theorem ok_X12_init_3 : tb_X12_init_3.all (enOk yX12_init cX12_init 1 RX12) = true := by decide +kernel
theorem ok_X12_init_4 : tb_X12_init_4.all (enOk yX12_init cX12_init 1 RX12) = true := by decide +kernel
theorem ok_X12_init_5 : tb_X12_init_5.all (enOk yX12_init cX12_init 1 RX12) = true := by decide +kernel
theorem ok_X12_init : mOk mi_X12_init = true := by
  show (tb_X12_init).all _ = true
  unfold tb_X12_init
  simp only [List.all_append, Bool.and_eq_true]
  exact ⟨ok_X12_init_0, ⟨ok_X12_init_1, ⟨ok_X12_init_2, ⟨ok_X12_init_3, ⟨ok_X12_init_4, ok_X12_init_5⟩⟩⟩⟩⟩
theorem mw_X12_init : mwOne mi_X12_init (4190, 1006, 4189, 0, 9999) = true := by decide +kernel
theorem ok_X12_in : mOk mi_X12_in = true := by decide +kernel
theorem mw_X12_in : mwOne mi_X12_in (5156, 1006, 5155, 0, 38) = true := by decide +kernel
theorem ok_X12_has : mOk mi_X12_has = true := by decide +kernel
theorem mw_X12_has : mwOne mi_X12_has (6076, 1006, 6075, 0, 67) = true := by decide +kernel
theorem ok_X12_ones : mOk mi_X12_ones = true := by decide +kernel
theorem mw_X12_ones : mwOne mi_X12_ones (6096, 1006, 6095, 0, 70) = true := by decide +kernel
theorem ok_X12_isStory : mOk mi_X12_isStory = true := by decide +kernel
theorem mw_X12_isStory : mwOne mi_X12_isStory (5168, 1006, 5167, 0, 39) = true := by decide +kernel
theorem ok_X12_isHearer : mOk mi_X12_isHearer = true := by decide +kernel
theorem mw_X12_isHearer : mwOne mi_X12_isHearer (5180, 1006, 5179, 0, 40) = true := by decide +kernel
theorem ok_X12_isTable : mOk mi_X12_isTable = true := by decide +kernel
theorem mw_X12_isTable : mwOne mi_X12_isTable (6064, 1006, 6063, 0, 64) = true := by decide +kernel
theorem ok_X12_story : mOk mi_X12_story = true := by decide +kernel
theorem mw_X12_story : mwOne mi_X12_story (5152, 1006, 5150, 0, 5151) = true := by decide +kernel
theorem ok_X12_hearer_0 : tb_X12_hearer_0.all (enOk yX12_hearer cX12_hearer 4 RX12) = true := by decide +kernel
theorem ok_X12_hearer_1 : tb_X12_hearer_1.all (enOk yX12_hearer cX12_hearer 4 RX12) = true := by decide +kernel
theorem ok_X12_hearer : mOk mi_X12_hearer = true := by
  show (tb_X12_hearer).all _ = true
  unfold tb_X12_hearer
  simp only [List.all_append, Bool.and_eq_true]
  exact ⟨ok_X12_hearer_0, ok_X12_hearer_1⟩
theorem mw_X12_hearer : mwOne mi_X12_hearer (5160, 1006, 5158, 0, 5159) = true := by decide +kernel
theorem ok_X12_at : mOk mi_X12_at = true := by decide +kernel
theorem mw_X12_at : mwOne mi_X12_at (5164, 1006, 5162, 0, 5163) = true := by decide +kernel
theorem ok_X12_good : mOk mi_X12_good = true := by decide +kernel
theorem mw_X12_good : mwOne mi_X12_good (5172, 1006, 5170, 0, 5171) = true := by decide +kernel
theorem ok_X12_had : mOk mi_X12_had = true := by decide +kernel
theorem mw_X12_had : mwOne mi_X12_had (5176, 1006, 5174, 0, 5175) = true := by decide +kernel
theorem ok_X12_row : mOk mi_X12_row = true := by decide +kernel
theorem mw_X12_row : mwOne mi_X12_row (5184, 1006, 5182, 0, 5183) = true := by decide +kernel
theorem ok_X12_feed : mOk mi_X12_feed = true := by decide +kernel
theorem mw_X12_feed : mwOne mi_X12_feed (5188, 1006, 5186, 0, 5187) = true := by decide +kernel
theorem ok_X12_next : mOk mi_X12_next = true := by decide +kernel
theorem mw_X12_next : mwOne mi_X12_next (5208, 1006, 5207, 0, 44) = true := by decide +kernel
theorem ok_X12_second : mOk mi_X12_second = true := by decide +kernel
theorem mw_X12_second : mwOne mi_X12_second (5220, 1006, 5219, 0, 47) = true := by decide +kernel
theorem ok_X12_takes : mOk mi_X12_takes = true := by decide +kernel
theorem mw_X12_takes : mwOne mi_X12_takes (5216, 1006, 5215, 0, 46) = true := by decide +kernel
theorem ok_X12_takesWord : mOk mi_X12_takesWord = true := by decide +kernel
theorem mw_X12_takesWord : mwOne mi_X12_takesWord (5212, 1006, 5211, 0, 45) = true := by decide +kernel
theorem ok_X12_isDigit : mOk mi_X12_isDigit = true := by decide +kernel
theorem mw_X12_isDigit : mwOne mi_X12_isDigit (5228, 1006, 5227, 0, 49) = true := by decide +kernel
theorem ok_X12_takesNumber : mOk mi_X12_takesNumber = true := by decide +kernel
theorem mw_X12_takesNumber : mwOne mi_X12_takesNumber (5224, 1006, 5223, 0, 48) = true := by decide +kernel
theorem ok_X12_emits : mOk mi_X12_emits = true := by decide +kernel
theorem mw_X12_emits : mwOne mi_X12_emits (6004, 1006, 6003, 0, 53) = true := by decide +kernel
theorem ok_X12_whole : mOk mi_X12_whole = true := by decide +kernel
theorem mw_X12_whole : mwOne mi_X12_whole (6008, 1006, 6007, 0, 54) = true := by decide +kernel
theorem ok_X12_settle : mOk mi_X12_settle = true := by decide +kernel
theorem mw_X12_settle : mwOne mi_X12_settle (6012, 1006, 6011, 0, 55) = true := by decide +kernel
theorem ok_X12_place : mOk mi_X12_place = true := by decide +kernel
theorem mw_X12_place : mwOne mi_X12_place (6000, 1006, 5239, 0, 52) = true := by decide +kernel
theorem ok_X12_takesTest : mOk mi_X12_takesTest = true := by decide +kernel
theorem mw_X12_takesTest : mwOne mi_X12_takesTest (5236, 1006, 5235, 0, 51) = true := by decide +kernel
theorem ok_X12_takesE_0 : tb_X12_takesE_0.all (enOk yX12_takesE cX12_takesE 4 RX12) = true := by decide +kernel
theorem ok_X12_takesE_1 : tb_X12_takesE_1.all (enOk yX12_takesE cX12_takesE 4 RX12) = true := by decide +kernel
theorem ok_X12_takesE_2 : tb_X12_takesE_2.all (enOk yX12_takesE cX12_takesE 4 RX12) = true := by decide +kernel
theorem ok_X12_takesE : mOk mi_X12_takesE = true := by
  show (tb_X12_takesE).all _ = true
  unfold tb_X12_takesE
  simp only [List.all_append, Bool.and_eq_true]
  exact ⟨ok_X12_takesE_0, ⟨ok_X12_takesE_1, ok_X12_takesE_2⟩⟩
theorem mw_X12_takesE : mwOne mi_X12_takesE (5232, 1006, 5231, 0, 50) = true := by decide +kernel
theorem ok_X12_takesHead : mOk mi_X12_takesHead = true := by decide +kernel
theorem mw_X12_takesHead : mwOne mi_X12_takesHead (5204, 1006, 5203, 0, 43) = true := by decide +kernel
theorem ok_X12_takesClause : mOk mi_X12_takesClause = true := by decide +kernel
theorem mw_X12_takesClause : mwOne mi_X12_takesClause (5200, 1006, 5199, 0, 42) = true := by decide +kernel
theorem ok_X12_goesText : mOk mi_X12_goesText = true := by decide +kernel
theorem mw_X12_goesText : mwOne mi_X12_goesText (5196, 1006, 5195, 0, 41) = true := by decide +kernel
theorem ok_X12_house : mOk mi_X12_house = true := by decide +kernel
theorem mw_X12_house : mwOne mi_X12_house (5192, 1006, 5190, 0, 5191) = true := by decide +kernel
theorem ok_X12_begin : mOk mi_X12_begin = true := by decide +kernel
theorem mw_X12_begin : mwOne mi_X12_begin (6032, 1006, 6031, 0, 59) = true := by decide +kernel
theorem ok_X12_behind : mOk mi_X12_behind = true := by decide +kernel
theorem mw_X12_behind : mwOne mi_X12_behind (6036, 1006, 6035, 0, 60) = true := by decide +kernel
theorem ok_X12_lastOf : mOk mi_X12_lastOf = true := by decide +kernel
theorem mw_X12_lastOf : mwOne mi_X12_lastOf (6028, 1006, 6027, 0, 58) = true := by decide +kernel
theorem ok_X12_factOf : mOk mi_X12_factOf = true := by decide +kernel
theorem mw_X12_factOf : mwOne mi_X12_factOf (6048, 1006, 6047, 0, 63) = true := by decide +kernel
theorem ok_X12_holds_0 : tb_X12_holds_0.all (enOk yX12_holds cX12_holds 9 RX12) = true := by decide +kernel
theorem ok_X12_holds_1 : tb_X12_holds_1.all (enOk yX12_holds cX12_holds 9 RX12) = true := by decide +kernel
theorem ok_X12_holds_2 : tb_X12_holds_2.all (enOk yX12_holds cX12_holds 9 RX12) = true := by decide +kernel
theorem ok_X12_holds : mOk mi_X12_holds = true := by
  show (tb_X12_holds).all _ = true
  unfold tb_X12_holds
  simp only [List.all_append, Bool.and_eq_true]
  exact ⟨ok_X12_holds_0, ⟨ok_X12_holds_1, ok_X12_holds_2⟩⟩
theorem mw_X12_holds : mwOne mi_X12_holds (6044, 1006, 6043, 0, 62) = true := by decide +kernel
theorem ok_X12_mood : mOk mi_X12_mood = true := by decide +kernel
theorem mw_X12_mood : mwOne mi_X12_mood (6040, 1006, 6039, 0, 61) = true := by decide +kernel
theorem ok_X12_limit : mOk mi_X12_limit = true := by decide +kernel
theorem mw_X12_limit : mwOne mi_X12_limit (6024, 1006, 6023, 0, 57) = true := by decide +kernel
theorem ok_X12_knows : mOk mi_X12_knows = true := by decide +kernel
theorem mw_X12_knows : mwOne mi_X12_knows (6020, 1006, 6019, 0, 56) = true := by decide +kernel
theorem ok_X12_laughOf_0 : tb_X12_laughOf_0.all (enOk yX12_laughOf cX12_laughOf 6 RX12) = true := by decide +kernel
theorem ok_X12_laughOf_1 : tb_X12_laughOf_1.all (enOk yX12_laughOf cX12_laughOf 6 RX12) = true := by decide +kernel
theorem ok_X12_laughOf : mOk mi_X12_laughOf = true := by
  show (tb_X12_laughOf).all _ = true
  unfold tb_X12_laughOf
  simp only [List.all_append, Bool.and_eq_true]
  exact ⟨ok_X12_laughOf_0, ok_X12_laughOf_1⟩
theorem mw_X12_laughOf : mwOne mi_X12_laughOf (6080, 1006, 6079, 0, 68) = true := by decide +kernel
theorem ok_X12_laughter : mOk mi_X12_laughter = true := by decide +kernel
theorem mw_X12_laughter : mwOne mi_X12_laughter (6072, 1006, 6071, 0, 66) = true := by decide +kernel
theorem ok_X12_knowing : mOk mi_X12_knowing = true := by decide +kernel
theorem mw_X12_knowing : mwOne mi_X12_knowing (6092, 1006, 6091, 0, 69) = true := by decide +kernel
theorem ok_X12_of_0 : tb_X12_of_0.all (enOk yX12_of cX12_of 4 RX12) = true := by decide +kernel
theorem ok_X12_of_1 : tb_X12_of_1.all (enOk yX12_of cX12_of 4 RX12) = true := by decide +kernel
theorem ok_X12_of : mOk mi_X12_of = true := by
  show (tb_X12_of).all _ = true
  unfold tb_X12_of
  simp only [List.all_append, Bool.and_eq_true]
  exact ⟨ok_X12_of_0, ok_X12_of_1⟩
theorem mw_X12_of : mwOne mi_X12_of (6016, 1006, 6014, 0, 6015) = true := by decide +kernel
theorem ok_X12_told : mOk mi_X12_told = true := by decide +kernel
theorem mw_X12_told : mwOne mi_X12_told (6052, 1006, 6050, 0, 6051) = true := by decide +kernel
theorem ok_X12_pass : mOk mi_X12_pass = true := by decide +kernel
theorem mw_X12_pass : mwOne mi_X12_pass (6056, 1006, 6054, 0, 6055) = true := by decide +kernel
theorem ok_X12_tells_0 : tb_X12_tells_0.all (enOk yX12_tells cX12_tells 5 RX12) = true := by decide +kernel
theorem ok_X12_tells_1 : tb_X12_tells_1.all (enOk yX12_tells cX12_tells 5 RX12) = true := by decide +kernel
theorem ok_X12_tells : mOk mi_X12_tells = true := by
  show (tb_X12_tells).all _ = true
  unfold tb_X12_tells
  simp only [List.all_append, Bool.and_eq_true]
  exact ⟨ok_X12_tells_0, ok_X12_tells_1⟩
theorem mw_X12_tells : mwOne mi_X12_tells (6068, 1006, 6067, 0, 65) = true := by decide +kernel
theorem ok_X12_tell : mOk mi_X12_tell = true := by decide +kernel
theorem mw_X12_tell : mwOne mi_X12_tell (6060, 1006, 6058, 0, 6059) = true := by decide +kernel
theorem ok_X12_laugh : mOk mi_X12_laugh = true := by decide +kernel
theorem mw_X12_laugh : mwOne mi_X12_laugh (6084, 1006, 6082, 0, 6083) = true := by decide +kernel
theorem ok_X12_would : mOk mi_X12_would = true := by decide +kernel
theorem mw_X12_would : mwOne mi_X12_would (6088, 1006, 6086, 0, 6087) = true := by decide +kernel
theorem ok_X12_bestOf : mOk mi_X12_bestOf = true := by decide +kernel
theorem mw_X12_bestOf : mwOne mi_X12_bestOf (6104, 1006, 6103, 0, 71) = true := by decide +kernel
theorem ok_X12_best : mOk mi_X12_best = true := by decide +kernel
theorem mw_X12_best : mwOne mi_X12_best (6100, 1006, 6098, 0, 6099) = true := by decide +kernel
theorem ok_X12_fresh : mOk mi_X12_fresh = true := by decide +kernel
theorem mw_X12_fresh : mwOne mi_X12_fresh (6108, 1006, 6106, 0, 6107) = true := by decide +kernel
theorem ok_X12_again : mOk mi_X12_again = true := by decide +kernel
theorem mw_X12_again : mwOne mi_X12_again (6112, 1006, 6110, 0, 6111) = true := by decide +kernel
theorem ok_X12_layFun : mOk mi_X12_layFun = true := by decide +kernel
theorem mw_X12_layFun : mwOne mi_X12_layFun (6120, 1006, 6119, 0, 72) = true := by decide +kernel
theorem ok_X12_evening_0 : tb_X12_evening_0.all (enOk yX12_evening cX12_evening 10 RX12) = true := by decide +kernel
theorem ok_X12_evening_1 : tb_X12_evening_1.all (enOk yX12_evening cX12_evening 10 RX12) = true := by decide +kernel
theorem ok_X12_evening : mOk mi_X12_evening = true := by
  show (tb_X12_evening).all _ = true
  unfold tb_X12_evening
  simp only [List.all_append, Bool.and_eq_true]
  exact ⟨ok_X12_evening_0, ok_X12_evening_1⟩
theorem mw_X12_evening : mwOne mi_X12_evening (6116, 1006, 6114, 0, 6115) = true := by decide +kernel
theorem ok_X12_save : mOk mi_X12_save = true := by decide +kernel
theorem mw_X12_save : mwOne mi_X12_save (6128, 1006, 6127, 0, 73) = true := by decide +kernel
theorem ok_X12_putBack : mOk mi_X12_putBack = true := by decide +kernel
theorem mw_X12_putBack : mwOne mi_X12_putBack (6132, 1006, 6131, 0, 74) = true := by decide +kernel
theorem ok_X12_coffee_0 : tb_X12_coffee_0.all (enOk yX12_coffee cX12_coffee 6 RX12) = true := by decide +kernel
theorem ok_X12_coffee_1 : tb_X12_coffee_1.all (enOk yX12_coffee cX12_coffee 6 RX12) = true := by decide +kernel
theorem ok_X12_coffee : mOk mi_X12_coffee = true := by
  show (tb_X12_coffee).all _ = true
  unfold tb_X12_coffee
  simp only [List.all_append, Bool.and_eq_true]
  exact ⟨ok_X12_coffee_0, ok_X12_coffee_1⟩
theorem mw_X12_coffee : mwOne mi_X12_coffee (6124, 1006, 6122, 0, 6123) = true := by decide +kernel
theorem ok_X12_keep_0 : tb_X12_keep_0.all (enOk yX12_keep cX12_keep 10 RX12) = true := by decide +kernel
theorem ok_X12_keep_1 : tb_X12_keep_1.all (enOk yX12_keep cX12_keep 10 RX12) = true := by decide +kernel
theorem ok_X12_keep : mOk mi_X12_keep = true := by
  show (tb_X12_keep).all _ = true
  unfold tb_X12_keep
  simp only [List.all_append, Bool.and_eq_true]
  exact ⟨ok_X12_keep_0, ok_X12_keep_1⟩
theorem mw_X12_keep : mwOne mi_X12_keep (6136, 1006, 6134, 0, 6135) = true := by decide +kernel
theorem ok_X12_nextRow : mOk mi_X12_nextRow = true := by decide +kernel
theorem mw_X12_nextRow : mwOne mi_X12_nextRow (6148, 1006, 6147, 0, 76) = true := by decide +kernel
theorem ok_X12_asRow : mOk mi_X12_asRow = true := by decide +kernel
theorem mw_X12_asRow : mwOne mi_X12_asRow (6144, 1006, 6143, 0, 75) = true := by decide +kernel
theorem ok_X12_suppers_0 : tb_X12_suppers_0.all (enOk yX12_suppers cX12_suppers 10 RX12) = true := by decide +kernel
theorem ok_X12_suppers_1 : tb_X12_suppers_1.all (enOk yX12_suppers cX12_suppers 10 RX12) = true := by decide +kernel
theorem ok_X12_suppers : mOk mi_X12_suppers = true := by
  show (tb_X12_suppers).all _ = true
  unfold tb_X12_suppers
  simp only [List.all_append, Bool.and_eq_true]
  exact ⟨ok_X12_suppers_0, ok_X12_suppers_1⟩
theorem mw_X12_suppers : mwOne mi_X12_suppers (6140, 1006, 6138, 0, 6139) = true := by decide +kernel
theorem ok_X12_layOrder_0 : tb_X12_layOrder_0.all (enOk yX12_layOrder cX12_layOrder 8 RX12) = true := by decide +kernel
theorem ok_X12_layOrder_1 : tb_X12_layOrder_1.all (enOk yX12_layOrder cX12_layOrder 8 RX12) = true := by decide +kernel
theorem ok_X12_layOrder : mOk mi_X12_layOrder = true := by
  show (tb_X12_layOrder).all _ = true
  unfold tb_X12_layOrder
  simp only [List.all_append, Bool.and_eq_true]
  exact ⟨ok_X12_layOrder_0, ok_X12_layOrder_1⟩
theorem mw_X12_layOrder : mwOne mi_X12_layOrder (6156, 1006, 6155, 0, 77) = true := by decide +kernel
theorem ok_X12_seated_0 : tb_X12_seated_0.all (enOk yX12_seated cX12_seated 5 RX12) = true := by decide +kernel
theorem ok_X12_seated_1 : tb_X12_seated_1.all (enOk yX12_seated cX12_seated 5 RX12) = true := by decide +kernel
theorem ok_X12_seated : mOk mi_X12_seated = true := by
  show (tb_X12_seated).all _ = true
  unfold tb_X12_seated
  simp only [List.all_append, Bool.and_eq_true]
  exact ⟨ok_X12_seated_0, ok_X12_seated_1⟩
theorem mw_X12_seated : mwOne mi_X12_seated (6160, 1006, 6159, 0, 78) = true := by decide +kernel
theorem ok_X12_seats_0 : tb_X12_seats_0.all (enOk yX12_seats cX12_seats 8 RX12) = true := by decide +kernel
theorem ok_X12_seats_1 : tb_X12_seats_1.all (enOk yX12_seats cX12_seats 8 RX12) = true := by decide +kernel
theorem ok_X12_seats : mOk mi_X12_seats = true := by
  show (tb_X12_seats).all _ = true
  unfold tb_X12_seats
  simp only [List.all_append, Bool.and_eq_true]
  exact ⟨ok_X12_seats_0, ok_X12_seats_1⟩
theorem mw_X12_seats : mwOne mi_X12_seats (6152, 1006, 6150, 0, 6151) = true := by decide +kernel
theorem ok_X12_spared_0 : tb_X12_spared_0.all (enOk yX12_spared cX12_spared 8 RX12) = true := by decide +kernel
theorem ok_X12_spared_1 : tb_X12_spared_1.all (enOk yX12_spared cX12_spared 8 RX12) = true := by decide +kernel
theorem ok_X12_spared : mOk mi_X12_spared = true := by
  show (tb_X12_spared).all _ = true
  unfold tb_X12_spared
  simp only [List.all_append, Bool.and_eq_true]
  exact ⟨ok_X12_spared_0, ok_X12_spared_1⟩
theorem mw_X12_spared : mwOne mi_X12_spared (6164, 1006, 6162, 0, 6163) = true := by decide +kernel
theorem ok_X12_see : mOk mi_X12_see = true := by decide +kernel
theorem mw_X12_see : mwOne mi_X12_see (6168, 1006, 6166, 0, 6167) = true := by decide +kernel
theorem ok_X12_guess : mOk mi_X12_guess = true := by decide +kernel
theorem mw_X12_guess : mwOne mi_X12_guess (6172, 1006, 6170, 0, 6171) = true := by decide +kernel
theorem ok_X12_divisor : mOk mi_X12_divisor = true := by decide +kernel
theorem mw_X12_divisor : mwOne mi_X12_divisor (6185, 1006, 6184, 0, 80) = true := by decide +kernel
theorem ok_X12_lowest : mOk mi_X12_lowest = true := by decide +kernel
theorem mw_X12_lowest : mwOne mi_X12_lowest (6181, 1006, 6180, 0, 79) = true := by decide +kernel
theorem ok_X12_odds : mOk mi_X12_odds = true := by decide +kernel
theorem mw_X12_odds : mwOne mi_X12_odds (6176, 1006, 6174, 0, 6175) = true := by decide +kernel
theorem ok_X12_mean : mOk mi_X12_mean = true := by decide +kernel
theorem mw_X12_mean : mwOne mi_X12_mean (6189, 1006, 6187, 0, 6188) = true := by decide +kernel
theorem ok_X12_book : mOk mi_X12_book = true := by decide +kernel
theorem mw_X12_book : mwOne mi_X12_book (6193, 1006, 6191, 0, 6192) = true := by decide +kernel
theorem ok_X12_looked : mOk mi_X12_looked = true := by decide +kernel
theorem mw_X12_looked : mwOne mi_X12_looked (6197, 1006, 6195, 0, 6196) = true := by decide +kernel
theorem ok_X12_judge_0 : tb_X12_judge_0.all (enOk yX12_judge cX12_judge 4 RX12) = true := by decide +kernel
theorem ok_X12_judge_1 : tb_X12_judge_1.all (enOk yX12_judge cX12_judge 4 RX12) = true := by decide +kernel
theorem ok_X12_judge : mOk mi_X12_judge = true := by
  show (tb_X12_judge).all _ = true
  unfold tb_X12_judge
  simp only [List.all_append, Bool.and_eq_true]
  exact ⟨ok_X12_judge_0, ok_X12_judge_1⟩
theorem mw_X12_judge : mwOne mi_X12_judge (6201, 1006, 6199, 0, 6200) = true := by decide +kernel
theorem ok_X12_image_0 : tb_X12_image_0.all (enOk yX12_image cX12_image 2 RX12) = true := by decide +kernel
theorem ok_X12_image_1 : tb_X12_image_1.all (enOk yX12_image cX12_image 2 RX12) = true := by decide +kernel
theorem ok_X12_image_2 : tb_X12_image_2.all (enOk yX12_image cX12_image 2 RX12) = true := by decide +kernel
theorem ok_X12_image : mOk mi_X12_image = true := by
  show (tb_X12_image).all _ = true
  unfold tb_X12_image
  simp only [List.all_append, Bool.and_eq_true]
  exact ⟨ok_X12_image_0, ⟨ok_X12_image_1, ok_X12_image_2⟩⟩
theorem mw_X12_image : mwOne mi_X12_image (6209, 1006, 6207, 0, 6208) = true := by decide +kernel
theorem ok_X12_undo_0 : tb_X12_undo_0.all (enOk yX12_undo cX12_undo 2 RX12) = true := by decide +kernel
theorem ok_X12_undo_1 : tb_X12_undo_1.all (enOk yX12_undo cX12_undo 2 RX12) = true := by decide +kernel
theorem ok_X12_undo_2 : tb_X12_undo_2.all (enOk yX12_undo cX12_undo 2 RX12) = true := by decide +kernel
theorem ok_X12_undo : mOk mi_X12_undo = true := by
  show (tb_X12_undo).all _ = true
  unfold tb_X12_undo
  simp only [List.all_append, Bool.and_eq_true]
  exact ⟨ok_X12_undo_0, ⟨ok_X12_undo_1, ok_X12_undo_2⟩⟩
theorem mw_X12_undo : mwOne mi_X12_undo (6213, 1006, 6211, 0, 6212) = true := by decide +kernel
theorem ok_X12_body : mOk mi_X12_body = true := by decide +kernel
theorem mw_X12_body : mwOne mi_X12_body (6225, 1006, 6224, 0, 83) = true := by decide +kernel
theorem ok_X12_hearerHears : mOk mi_X12_hearerHears = true := by decide +kernel
theorem mw_X12_hearerHears : mwOne mi_X12_hearerHears (6229, 1006, 6228, 0, 84) = true := by decide +kernel
theorem ok_X12_hearsAct : mOk mi_X12_hearsAct = true := by decide +kernel
theorem mw_X12_hearsAct : mwOne mi_X12_hearsAct (6221, 1006, 6220, 0, 82) = true := by decide +kernel
theorem ok_X12_hearerLaughs : mOk mi_X12_hearerLaughs = true := by decide +kernel
theorem mw_X12_hearerLaughs : mwOne mi_X12_hearerLaughs (7001, 1006, 7000, 0, 87) = true := by decide +kernel
theorem ok_X12_politeLaughs : mOk mi_X12_politeLaughs = true := by decide +kernel
theorem mw_X12_politeLaughs : mwOne mi_X12_politeLaughs (6237, 1006, 6236, 0, 86) = true := by decide +kernel
theorem ok_X12_laughsAct : mOk mi_X12_laughsAct = true := by decide +kernel
theorem mw_X12_laughsAct : mwOne mi_X12_laughsAct (6233, 1006, 6232, 0, 85) = true := by decide +kernel
theorem ok_X12_hearerTells : mOk mi_X12_hearerTells = true := by decide +kernel
theorem mw_X12_hearerTells : mwOne mi_X12_hearerTells (7009, 1006, 7008, 0, 89) = true := by decide +kernel
theorem ok_X12_tellsAct : mOk mi_X12_tellsAct = true := by decide +kernel
theorem mw_X12_tellsAct : mwOne mi_X12_tellsAct (7005, 1006, 7004, 0, 88) = true := by decide +kernel
theorem ok_X12_act : mOk mi_X12_act = true := by decide +kernel
theorem mw_X12_act : mwOne mi_X12_act (6217, 1006, 6215, 0, 6216) = true := by decide +kernel
theorem ok_X12_trace : mOk mi_X12_trace = true := by decide +kernel
theorem mw_X12_trace : mwOne mi_X12_trace (7013, 1006, 7011, 0, 7012) = true := by decide +kernel
theorem ok_X12_taken : mOk mi_X12_taken = true := by decide +kernel
theorem mw_X12_taken : mwOne mi_X12_taken (7017, 1006, 7015, 0, 7016) = true := by decide +kernel
theorem ok_X12_count : mOk mi_X12_count = true := by decide +kernel
theorem mw_X12_count : mwOne mi_X12_count (7021, 1006, 7019, 0, 7020) = true := by decide +kernel
theorem ok_X12_isTape : mOk mi_X12_isTape = true := by decide +kernel
theorem mw_X12_isTape : mwOne mi_X12_isTape (6205, 1006, 6204, 0, 81) = true := by decide +kernel
theorem ok_X12_tape : mOk mi_X12_tape = true := by decide +kernel
theorem mw_X12_tape : mwOne mi_X12_tape (7025, 1006, 7023, 0, 7024) = true := by decide +kernel
theorem ok_X12_narrow : mOk mi_X12_narrow = true := by decide +kernel
theorem mw_X12_narrow : mwOne mi_X12_narrow (7033, 1006, 7032, 0, 90) = true := by decide +kernel
theorem ok_X12_item : mOk mi_X12_item = true := by decide +kernel
theorem mw_X12_item : mwOne mi_X12_item (7029, 1006, 7027, 0, 7028) = true := by decide +kernel
theorem ok_X12_read : mOk mi_X12_read = true := by decide +kernel
theorem mw_X12_read : mwOne mi_X12_read (7037, 1006, 7035, 0, 7036) = true := by decide +kernel
theorem ok_X12_shift_0 : tb_X12_shift_0.all (enOk yX12_shift cX12_shift 7 RX12) = true := by decide +kernel
theorem ok_X12_shift_1 : tb_X12_shift_1.all (enOk yX12_shift cX12_shift 7 RX12) = true := by decide +kernel
theorem ok_X12_shift : mOk mi_X12_shift = true := by
  show (tb_X12_shift).all _ = true
  unfold tb_X12_shift
  simp only [List.all_append, Bool.and_eq_true]
  exact ⟨ok_X12_shift_0, ok_X12_shift_1⟩
theorem mw_X12_shift : mwOne mi_X12_shift (7041, 1006, 7039, 0, 7040) = true := by decide +kernel
