/-! CHECK, the kernel: rows of methods -/
theorem ok_X10_init : mOk mi_X10_init = true := by decide +kernel
theorem mw_X10_init : mwOne mi_X10_init (1105, 1003, 1104, 0, 9999) = true := by decide +kernel
theorem ok_X10_clear : mOk mi_X10_clear = true := by decide +kernel
theorem mw_X10_clear : mwOne mi_X10_clear (4053, 1003, 4051, 0, 4052) = true := by decide +kernel
theorem ok_X10_begin : mOk mi_X10_begin = true := by decide +kernel
theorem mw_X10_begin : mwOne mi_X10_begin (4064, 1003, 4062, 0, 4063) = true := by decide +kernel
theorem ok_X10_keptBodies : mOk mi_X10_keptBodies = true := by decide +kernel
theorem mw_X10_keptBodies : mwOne mi_X10_keptBodies (4140, 1003, 4138, 0, 4139) = true := by decide +kernel
theorem ok_X8_init : mOk mi_X8_init = true := by decide +kernel
theorem mw_X8_init : mwOne mi_X8_init (1154, 1005, 1153, 0, 9999) = true := by decide +kernel
theorem ok_X8_renew : mOk mi_X8_renew = true := by decide +kernel
theorem mw_X8_renew : mwOne mi_X8_renew (4160, 1005, 4158, 0, 4159) = true := by decide +kernel
theorem ok_X8_fitted : mOk mi_X8_fitted = true := by decide +kernel
theorem mw_X8_fitted : mwOne mi_X8_fitted (4170, 1005, 4168, 0, 4169) = true := by decide +kernel
theorem ok_X8_hasRun : mOk mi_X8_hasRun = true := by decide +kernel
theorem mw_X8_hasRun : mwOne mi_X8_hasRun (4182, 1005, 4180, 0, 4181) = true := by decide +kernel
theorem ok_X5_init : mOk mi_X5_init = true := by decide +kernel
theorem mw_X5_init : mwOne mi_X5_init (1122, 1004, 1121, 0, 9999) = true := by decide +kernel
theorem ok_X5_learn : mOk mi_X5_learn = true := by decide +kernel
theorem mw_X5_learn : mwOne mi_X5_learn (2203, 1004, 2201, 0, 2202) = true := by decide +kernel
theorem ok_X5_learnClause : mOk mi_X5_learnClause = true := by decide +kernel
theorem mw_X5_learnClause : mwOne mi_X5_learnClause (2208, 1004, 2207, 0, 11) = true := by decide +kernel
theorem ok_X5_learnEither : mOk mi_X5_learnEither = true := by decide +kernel
theorem mw_X5_learnEither : mwOne mi_X5_learnEither (3050, 1004, 3049, 0, 17) = true := by decide +kernel
theorem ok_X5_learnBoth : mOk mi_X5_learnBoth = true := by decide +kernel
theorem mw_X5_learnBoth : mwOne mi_X5_learnBoth (3054, 1004, 3053, 0, 18) = true := by decide +kernel
theorem ok_X5_learnPart_0 : tb_X5_learnPart_0.all (enOk yX5_learnPart cX5_learnPart 6 RX5) = true := by decide +kernel
theorem ok_X5_learnPart_1 : tb_X5_learnPart_1.all (enOk yX5_learnPart cX5_learnPart 6 RX5) = true := by decide +kernel
theorem ok_X5_learnPart : mOk mi_X5_learnPart = true := by
  show (tb_X5_learnPart).all _ = true
  unfold tb_X5_learnPart
  simp only [List.all_append, Bool.and_eq_true]
  exact ⟨ok_X5_learnPart_0, ok_X5_learnPart_1⟩
theorem mw_X5_learnPart : mwOne mi_X5_learnPart (3058, 1004, 3057, 0, 19) = true := by decide +kernel
theorem ok_X5_add : mOk mi_X5_add = true := by decide +kernel
theorem mw_X5_add : mwOne mi_X5_add (3062, 1004, 3061, 0, 20) = true := by decide +kernel
theorem ok_X5_signAt : mOk mi_X5_signAt = true := by decide +kernel
theorem mw_X5_signAt : mwOne mi_X5_signAt (2237, 1004, 2236, 0, 14) = true := by decide +kernel
theorem ok_X5_goBy : mOk mi_X5_goBy = true := by decide +kernel
theorem mw_X5_goBy : mwOne mi_X5_goBy (3042, 1004, 3041, 0, 15) = true := by decide +kernel
theorem ok_X5_goByOneOf : mOk mi_X5_goByOneOf = true := by decide +kernel
theorem mw_X5_goByOneOf : mwOne mi_X5_goByOneOf (3067, 1004, 3066, 0, 21) = true := by decide +kernel
theorem ok_X5_goByNumber : mOk mi_X5_goByNumber = true := by decide +kernel
theorem mw_X5_goByNumber : mwOne mi_X5_goByNumber (3046, 1004, 3045, 0, 16) = true := by decide +kernel
theorem ok_X5_goByWord : mOk mi_X5_goByWord = true := by decide +kernel
theorem mw_X5_goByWord : mwOne mi_X5_goByWord (2212, 1004, 2211, 0, 12) = true := by decide +kernel
theorem ok_X5_wordOf : mOk mi_X5_wordOf = true := by decide +kernel
theorem mw_X5_wordOf : mwOne mi_X5_wordOf (2215, 1004, 2214, 1, 9999) = true := by decide +kernel
theorem ok_X5_alike : mOk mi_X5_alike = true := by decide +kernel
theorem mw_X5_alike : mwOne mi_X5_alike (2223, 1004, 2222, 0, 13) = true := by decide +kernel
theorem ok_X5_moodBy_0 : tb_X5_moodBy_0.all (enOk yX5_moodBy cX5_moodBy 6 RX5) = true := by decide +kernel
theorem ok_X5_moodBy_1 : tb_X5_moodBy_1.all (enOk yX5_moodBy cX5_moodBy 6 RX5) = true := by decide +kernel
theorem ok_X5_moodBy : mOk mi_X5_moodBy = true := by
  show (tb_X5_moodBy).all _ = true
  unfold tb_X5_moodBy
  simp only [List.all_append, Bool.and_eq_true]
  exact ⟨ok_X5_moodBy_0, ok_X5_moodBy_1⟩
theorem mw_X5_moodBy : mwOne mi_X5_moodBy (2167, 1004, 2165, 0, 2166) = true := by decide +kernel
theorem ok_X5_holds : mOk mi_X5_holds = true := by decide +kernel
theorem mw_X5_holds : mwOne mi_X5_holds (2171, 1004, 2170, 0, 9) = true := by decide +kernel
theorem ok_X3_init : mOk mi_X3_init = true := by decide +kernel
theorem mw_X3_init : mwOne mi_X3_init (2004, 1007, 2003, 0, 9999) = true := by decide +kernel
theorem ok_X3_memory : mOk mi_X3_memory = true := by decide +kernel
theorem mw_X3_memory : mwOne mi_X3_memory (2156, 1007, 2141, 0, 2142) = true := by decide +kernel
theorem ok_X3_whenNew : mOk mi_X3_whenNew = true := by decide +kernel
theorem mw_X3_whenNew : mwOne mi_X3_whenNew (3136, 1007, 3125, 0, 3126) = true := by decide +kernel
theorem ok_X3_whenKnown : mOk mi_X3_whenKnown = true := by decide +kernel
theorem mw_X3_whenKnown : mwOne mi_X3_whenKnown (3123, 1007, 3106, 0, 3107) = true := by decide +kernel
theorem ok_X3_hears : mOk mi_X3_hears = true := by decide +kernel
theorem mw_X3_hears : mwOne mi_X3_hears (4082, 1007, 4055, 0, 4056) = true := by decide +kernel
theorem ok_X3_laughs : mOk mi_X3_laughs = true := by decide +kernel
theorem mw_X3_laughs : mwOne mi_X3_laughs (4106, 1007, 4085, 0, 4086) = true := by decide +kernel
theorem ok_X3_tells : mOk mi_X3_tells = true := by decide +kernel
theorem mw_X3_tells : mwOne mi_X3_tells (4131, 1007, 4109, 0, 4110) = true := by decide +kernel
theorem ok_X6_init : mOk mi_X6_init = true := by decide +kernel
theorem mw_X6_init : mwOne mi_X6_init (2001, 1008, 2000, 0, 9999) = true := by decide +kernel
theorem ok_X6_whenKnown : mOk mi_X6_whenKnown = true := by decide +kernel
theorem mw_X6_whenKnown : mwOne mi_X6_whenKnown (3121, 1008, 3120, 0, 9999) = true := by decide +kernel
theorem ok_X6_laughs : mOk mi_X6_laughs = true := by decide +kernel
theorem mw_X6_laughs : mwOne mi_X6_laughs (4096, 1008, 4095, 0, 9999) = true := by decide +kernel
theorem ok_X0_init : mOk mi_X0_init = true := by decide +kernel
theorem mw_X0_init : mwOne mi_X0_init (2046, 1009, 2045, 0, 9999) = true := by decide +kernel
theorem ok_X0_whenNew : mOk mi_X0_whenNew = true := by decide +kernel
theorem mw_X0_whenNew : mwOne mi_X0_whenNew (3130, 1009, 3129, 0, 9999) = true := by decide +kernel
theorem ok_X0_whenKnown : mOk mi_X0_whenKnown = true := by decide +kernel
theorem mw_X0_whenKnown : mwOne mi_X0_whenKnown (3111, 1009, 3110, 0, 9999) = true := by decide +kernel
theorem ok_X0_hears : mOk mi_X0_hears = true := by decide +kernel
theorem mw_X0_hears : mwOne mi_X0_hears (4060, 1009, 4059, 0, 9999) = true := by decide +kernel
theorem ok_X2_init : mOk mi_X2_init = true := by decide +kernel
theorem mw_X2_init : mwOne mi_X2_init (2057, 1010, 2056, 0, 9999) = true := by decide +kernel
theorem ok_X2_memory : mOk mi_X2_memory = true := by decide +kernel
theorem mw_X2_memory : mwOne mi_X2_memory (2150, 1010, 2149, 0, 9999) = true := by decide +kernel
theorem ok_X2_tells : mOk mi_X2_tells = true := by decide +kernel
theorem mw_X2_tells : mwOne mi_X2_tells (4122, 1010, 4121, 0, 9999) = true := by decide +kernel
theorem ok_X4_init : mOk mi_X4_init = true := by decide +kernel
theorem mw_X4_init : mwOne mi_X4_init (2068, 1011, 2067, 0, 9999) = true := by decide +kernel
theorem ok_X4_whenKnown : mOk mi_X4_whenKnown = true := by decide +kernel
theorem mw_X4_whenKnown : mwOne mi_X4_whenKnown (3118, 1011, 3117, 0, 9999) = true := by decide +kernel
theorem ok_X4_hears : mOk mi_X4_hears = true := by decide +kernel
theorem mw_X4_hears : mwOne mi_X4_hears (4070, 1011, 4069, 0, 9999) = true := by decide +kernel
theorem ok_X4_laughs : mOk mi_X4_laughs = true := by decide +kernel
theorem mw_X4_laughs : mwOne mi_X4_laughs (4093, 1011, 4092, 0, 9999) = true := by decide +kernel
theorem ok_X1_init : mOk mi_X1_init = true := by decide +kernel
theorem mw_X1_init : mwOne mi_X1_init (2079, 1012, 2078, 0, 9999) = true := by decide +kernel
theorem ok_X1_memory : mOk mi_X1_memory = true := by decide +kernel
theorem mw_X1_memory : mwOne mi_X1_memory (2147, 1012, 2146, 0, 9999) = true := by decide +kernel
theorem ok_X1_whenKnown : mOk mi_X1_whenKnown = true := by decide +kernel
theorem mw_X1_whenKnown : mwOne mi_X1_whenKnown (3114, 1012, 3113, 0, 9999) = true := by decide +kernel
theorem ok_X1_tells : mOk mi_X1_tells = true := by decide +kernel
theorem mw_X1_tells : mwOne mi_X1_tells (4115, 1012, 4114, 0, 9999) = true := by decide +kernel
theorem ok_X9_init : mOk mi_X9_init = true := by decide +kernel
theorem mw_X9_init : mwOne mi_X9_init (2090, 1013, 2089, 0, 9999) = true := by decide +kernel
theorem ok_X9_memory : mOk mi_X9_memory = true := by decide +kernel
theorem mw_X9_memory : mwOne mi_X9_memory (2155, 1013, 2154, 0, 9999) = true := by decide +kernel
theorem ok_X9_laughs : mOk mi_X9_laughs = true := by decide +kernel
theorem mw_X9_laughs : mwOne mi_X9_laughs (4102, 1013, 4101, 0, 9999) = true := by decide +kernel
theorem ok_X9_hears : mOk mi_X9_hears = true := by decide +kernel
theorem mw_X9_hears : mwOne mi_X9_hears (4078, 1013, 4077, 0, 9999) = true := by decide +kernel
theorem ok_X7_init_0 : tb_X7_init_0.all (enOk yX7_init cX7_init 2 RX7) = true := by decide +kernel
theorem ok_X7_init_1 : tb_X7_init_1.all (enOk yX7_init cX7_init 2 RX7) = true := by decide +kernel
theorem ok_X7_init : mOk mi_X7_init = true := by
  show (tb_X7_init).all _ = true
  unfold tb_X7_init
  simp only [List.all_append, Bool.and_eq_true]
  exact ⟨ok_X7_init_0, ok_X7_init_1⟩
theorem mw_X7_init : mwOne mi_X7_init (1033, 1002, 1032, 0, 9999) = true := by decide +kernel
theorem ok_X7_become_0 : tb_X7_become_0.all (enOk yX7_become cX7_become 3 RX7) = true := by decide +kernel
theorem ok_X7_become_1 : tb_X7_become_1.all (enOk yX7_become cX7_become 3 RX7) = true := by decide +kernel
theorem ok_X7_become : mOk mi_X7_become = true := by
  show (tb_X7_become).all _ = true
  unfold tb_X7_become
  simp only [List.all_append, Bool.and_eq_true]
  exact ⟨ok_X7_become_0, ok_X7_become_1⟩
theorem mw_X7_become : mwOne mi_X7_become (4040, 1002, 4038, 0, 4039) = true := by decide +kernel
theorem ok_X11_init_0 : tb_X11_init_0.all (enOk yX11_init cX11_init 2 RX11) = true := by decide +kernel
theorem ok_X11_init_1 : tb_X11_init_1.all (enOk yX11_init cX11_init 2 RX11) = true := by decide +kernel
theorem ok_X11_init : mOk mi_X11_init = true := by
  show (tb_X11_init).all _ = true
  unfold tb_X11_init
  simp only [List.all_append, Bool.and_eq_true]
  exact ⟨ok_X11_init_0, ok_X11_init_1⟩
theorem mw_X11_init : mwOne mi_X11_init (1025, 1001, 1024, 0, 9999) = true := by decide +kernel
theorem ok_X11_story : mOk mi_X11_story = true := by decide +kernel
theorem mw_X11_story : mwOne mi_X11_story (1222, 1001, 1220, 0, 1221) = true := by decide +kernel
theorem ok_X11_hearer : mOk mi_X11_hearer = true := by decide +kernel
theorem mw_X11_hearer : mwOne mi_X11_hearer (1232, 1001, 1230, 0, 1231) = true := by decide +kernel
theorem ok_X11_of_0 : tb_X11_of_0.all (enOk yX11_of cX11_of 5 RX11) = true := by decide +kernel
theorem ok_X11_of_1 : tb_X11_of_1.all (enOk yX11_of cX11_of 5 RX11) = true := by decide +kernel
theorem ok_X11_of : mOk mi_X11_of = true := by
  show (tb_X11_of).all _ = true
  unfold tb_X11_of
  simp only [List.all_append, Bool.and_eq_true]
  exact ⟨ok_X11_of_0, ok_X11_of_1⟩
theorem mw_X11_of : mwOne mi_X11_of (2108, 1001, 2106, 0, 2107) = true := by decide +kernel
theorem ok_X11_at : mOk mi_X11_at = true := by decide +kernel
theorem mw_X11_at : mwOne mi_X11_at (2175, 1001, 2173, 0, 2174) = true := by decide +kernel
theorem ok_X11_good : mOk mi_X11_good = true := by decide +kernel
theorem mw_X11_good : mwOne mi_X11_good (2179, 1001, 2177, 0, 2178) = true := by decide +kernel
theorem ok_X11_had : mOk mi_X11_had = true := by decide +kernel
theorem mw_X11_had : mwOne mi_X11_had (2183, 1001, 2181, 0, 2182) = true := by decide +kernel
theorem ok_X11_row : mOk mi_X11_row = true := by decide +kernel
theorem mw_X11_row : mwOne mi_X11_row (2191, 1001, 2189, 0, 2190) = true := by decide +kernel
theorem ok_X11_feed : mOk mi_X11_feed = true := by decide +kernel
theorem mw_X11_feed : mwOne mi_X11_feed (2195, 1001, 2193, 0, 2194) = true := by decide +kernel
theorem ok_X11_house : mOk mi_X11_house = true := by decide +kernel
theorem mw_X11_house : mwOne mi_X11_house (2199, 1001, 2197, 0, 2198) = true := by decide +kernel
theorem ok_X11_told : mOk mi_X11_told = true := by decide +kernel
theorem mw_X11_told : mwOne mi_X11_told (3072, 1001, 3070, 0, 3071) = true := by decide +kernel
theorem ok_X11_pass : mOk mi_X11_pass = true := by decide +kernel
theorem mw_X11_pass : mwOne mi_X11_pass (3080, 1001, 3078, 0, 3079) = true := by decide +kernel
theorem ok_X11_tell : mOk mi_X11_tell = true := by decide +kernel
theorem mw_X11_tell : mwOne mi_X11_tell (3084, 1001, 3082, 0, 3083) = true := by decide +kernel
theorem ok_X11_laugh : mOk mi_X11_laugh = true := by decide +kernel
theorem mw_X11_laugh : mwOne mi_X11_laugh (3140, 1001, 3138, 0, 3139) = true := by decide +kernel
theorem ok_X11_would : mOk mi_X11_would = true := by decide +kernel
theorem mw_X11_would : mwOne mi_X11_would (3148, 1001, 3146, 0, 3147) = true := by decide +kernel
theorem ok_X11_best : mOk mi_X11_best = true := by decide +kernel
theorem mw_X11_best : mwOne mi_X11_best (3158, 1001, 3156, 0, 3157) = true := by decide +kernel
theorem ok_X11_fresh : mOk mi_X11_fresh = true := by decide +kernel
theorem mw_X11_fresh : mwOne mi_X11_fresh (3170, 1001, 3168, 0, 3169) = true := by decide +kernel
theorem ok_X11_again : mOk mi_X11_again = true := by decide +kernel
theorem mw_X11_again : mwOne mi_X11_again (3174, 1001, 3172, 0, 3173) = true := by decide +kernel
theorem ok_X11_evening_0 : tb_X11_evening_0.all (enOk yX11_evening cX11_evening 8 RX11) = true := by decide +kernel
theorem ok_X11_evening_1 : tb_X11_evening_1.all (enOk yX11_evening cX11_evening 8 RX11) = true := by decide +kernel
theorem ok_X11_evening : mOk mi_X11_evening = true := by
  show (tb_X11_evening).all _ = true
  unfold tb_X11_evening
  simp only [List.all_append, Bool.and_eq_true]
  exact ⟨ok_X11_evening_0, ok_X11_evening_1⟩
theorem mw_X11_evening : mwOne mi_X11_evening (3178, 1001, 3176, 0, 3177) = true := by decide +kernel
theorem ok_X11_coffee_0 : tb_X11_coffee_0.all (enOk yX11_coffee cX11_coffee 6 RX11) = true := by decide +kernel
theorem ok_X11_coffee_1 : tb_X11_coffee_1.all (enOk yX11_coffee cX11_coffee 6 RX11) = true := by decide +kernel
theorem ok_X11_coffee : mOk mi_X11_coffee = true := by
  show (tb_X11_coffee).all _ = true
  unfold tb_X11_coffee
  simp only [List.all_append, Bool.and_eq_true]
  exact ⟨ok_X11_coffee_0, ok_X11_coffee_1⟩
theorem mw_X11_coffee : mwOne mi_X11_coffee (3185, 1001, 3183, 0, 3184) = true := by decide +kernel
theorem ok_X11_keep_0 : tb_X11_keep_0.all (enOk yX11_keep cX11_keep 10 RX11) = true := by decide +kernel
theorem ok_X11_keep_1 : tb_X11_keep_1.all (enOk yX11_keep cX11_keep 10 RX11) = true := by decide +kernel
theorem ok_X11_keep : mOk mi_X11_keep = true := by
  show (tb_X11_keep).all _ = true
  unfold tb_X11_keep
  simp only [List.all_append, Bool.and_eq_true]
  exact ⟨ok_X11_keep_0, ok_X11_keep_1⟩
theorem mw_X11_keep : mwOne mi_X11_keep (3189, 1001, 3187, 0, 3188) = true := by decide +kernel
theorem ok_X11_suppers_0 : tb_X11_suppers_0.all (enOk yX11_suppers cX11_suppers 9 RX11) = true := by decide +kernel
theorem ok_X11_suppers_1 : tb_X11_suppers_1.all (enOk yX11_suppers cX11_suppers 9 RX11) = true := by decide +kernel
theorem ok_X11_suppers : mOk mi_X11_suppers = true := by
  show (tb_X11_suppers).all _ = true
  unfold tb_X11_suppers
  simp only [List.all_append, Bool.and_eq_true]
  exact ⟨ok_X11_suppers_0, ok_X11_suppers_1⟩
theorem mw_X11_suppers : mwOne mi_X11_suppers (3194, 1001, 3192, 0, 3193) = true := by decide +kernel
theorem ok_X11_seats : mOk mi_X11_seats = true := by decide +kernel
theorem mw_X11_seats : mwOne mi_X11_seats (3212, 1001, 3210, 0, 3211) = true := by decide +kernel
theorem ok_X11_spared : mOk mi_X11_spared = true := by decide +kernel
theorem mw_X11_spared : mwOne mi_X11_spared (3235, 1001, 3233, 0, 3234) = true := by decide +kernel
theorem ok_X11_see : mOk mi_X11_see = true := by decide +kernel
theorem mw_X11_see : mwOne mi_X11_see (4000, 1001, 3238, 0, 3239) = true := by decide +kernel
theorem ok_X11_guess : mOk mi_X11_guess = true := by decide +kernel
theorem mw_X11_guess : mwOne mi_X11_guess (4004, 1001, 4002, 0, 4003) = true := by decide +kernel
theorem ok_X11_odds : mOk mi_X11_odds = true := by decide +kernel
theorem mw_X11_odds : mwOne mi_X11_odds (4008, 1001, 4006, 0, 4007) = true := by decide +kernel
theorem ok_X11_mean : mOk mi_X11_mean = true := by decide +kernel
theorem mw_X11_mean : mwOne mi_X11_mean (4016, 1001, 4014, 0, 4015) = true := by decide +kernel
theorem ok_X11_book : mOk mi_X11_book = true := by decide +kernel
theorem mw_X11_book : mwOne mi_X11_book (4020, 1001, 4018, 0, 4019) = true := by decide +kernel
theorem ok_X11_looked : mOk mi_X11_looked = true := by decide +kernel
theorem mw_X11_looked : mwOne mi_X11_looked (4024, 1001, 4022, 0, 4023) = true := by decide +kernel
theorem ok_X11_judge_0 : tb_X11_judge_0.all (enOk yX11_judge cX11_judge 6 RX11) = true := by decide +kernel
theorem ok_X11_judge_1 : tb_X11_judge_1.all (enOk yX11_judge cX11_judge 6 RX11) = true := by decide +kernel
theorem ok_X11_judge : mOk mi_X11_judge = true := by
  show (tb_X11_judge).all _ = true
  unfold tb_X11_judge
  simp only [List.all_append, Bool.and_eq_true]
  exact ⟨ok_X11_judge_0, ok_X11_judge_1⟩
theorem mw_X11_judge : mwOne mi_X11_judge (4028, 1001, 4026, 0, 4027) = true := by decide +kernel
theorem ok_X11_image : mOk mi_X11_image = true := by decide +kernel
theorem mw_X11_image : mwOne mi_X11_image (4036, 1001, 4034, 0, 4035) = true := by decide +kernel
theorem ok_X11_undo : mOk mi_X11_undo = true := by decide +kernel
theorem mw_X11_undo : mwOne mi_X11_undo (4045, 1001, 4043, 0, 4044) = true := by decide +kernel
theorem ok_X11_act : mOk mi_X11_act = true := by decide +kernel
theorem mw_X11_act : mwOne mi_X11_act (4049, 1001, 4047, 0, 4048) = true := by decide +kernel
theorem ok_X11_trace : mOk mi_X11_trace = true := by decide +kernel
theorem mw_X11_trace : mwOne mi_X11_trace (4136, 1001, 4134, 0, 4135) = true := by decide +kernel
theorem ok_X11_taken : mOk mi_X11_taken = true := by decide +kernel
theorem mw_X11_taken : mwOne mi_X11_taken (4145, 1001, 4143, 0, 4144) = true := by decide +kernel
theorem ok_X11_count : mOk mi_X11_count = true := by decide +kernel
theorem mw_X11_count : mwOne mi_X11_count (4152, 1001, 4150, 0, 4151) = true := by decide +kernel
theorem ok_X11_tape : mOk mi_X11_tape = true := by decide +kernel
theorem mw_X11_tape : mwOne mi_X11_tape (4156, 1001, 4154, 0, 4155) = true := by decide +kernel
theorem ok_X11_item : mOk mi_X11_item = true := by decide +kernel
theorem mw_X11_item : mwOne mi_X11_item (4166, 1001, 4164, 0, 4165) = true := by decide +kernel
theorem ok_X11_read : mOk mi_X11_read = true := by decide +kernel
theorem mw_X11_read : mwOne mi_X11_read (4174, 1001, 4172, 0, 4173) = true := by decide +kernel
theorem ok_X11_shift : mOk mi_X11_shift = true := by decide +kernel
theorem mw_X11_shift : mwOne mi_X11_shift (4178, 1001, 4176, 0, 4177) = true := by decide +kernel
theorem ok_X11_within : mOk mi_X11_within = true := by decide +kernel
theorem mw_X11_within : mwOne mi_X11_within (1228, 1001, 1227, 1, 9999) = true := by decide +kernel
theorem ok_X11_isGood : mOk mi_X11_isGood = true := by decide +kernel
theorem mw_X11_isGood : mwOne mi_X11_isGood (1225, 1001, 1224, 1, 9999) = true := by decide +kernel
theorem ok_X11_in : mOk mi_X11_in = true := by decide +kernel
theorem mw_X11_in : mwOne mi_X11_in (2127, 1001, 2126, 1, 9999) = true := by decide +kernel
theorem ok_X11_isStory : mOk mi_X11_isStory = true := by decide +kernel
theorem mw_X11_isStory : mwOne mi_X11_isStory (2116, 1001, 2115, 0, 2) = true := by decide +kernel
theorem ok_X11_everybody : mOk mi_X11_everybody = true := by decide +kernel
theorem mw_X11_everybody : mwOne mi_X11_everybody (3092, 1001, 3091, 0, 24) = true := by decide +kernel
theorem ok_X11_isTable : mOk mi_X11_isTable = true := by decide +kernel
theorem mw_X11_isTable : mwOne mi_X11_isTable (3088, 1001, 3087, 0, 23) = true := by decide +kernel
theorem ok_X11_hearerAt : mOk mi_X11_hearerAt = true := by decide +kernel
theorem mw_X11_hearerAt : mwOne mi_X11_hearerAt (2112, 1001, 2111, 0, 1) = true := by decide +kernel
theorem ok_X11_tapeAt : mOk mi_X11_tapeAt = true := by decide +kernel
theorem mw_X11_tapeAt : mwOne mi_X11_tapeAt (4032, 1001, 4031, 0, 37) = true := by decide +kernel
theorem ok_X11_holding : mOk mi_X11_holding = true := by decide +kernel
theorem mw_X11_holding : mwOne mi_X11_holding (2139, 1001, 2138, 0, 7) = true := by decide +kernel
theorem ok_X11_daysTold : mOk mi_X11_daysTold = true := by decide +kernel
theorem mw_X11_daysTold : mwOne mi_X11_daysTold (2135, 1001, 2134, 0, 6) = true := by decide +kernel
theorem ok_X11_faceTold : mOk mi_X11_faceTold = true := by decide +kernel
theorem mw_X11_faceTold : mwOne mi_X11_faceTold (3076, 1001, 3075, 0, 22) = true := by decide +kernel
theorem ok_X11_timesOf : mOk mi_X11_timesOf = true := by decide +kernel
theorem mw_X11_timesOf : mwOne mi_X11_timesOf (2120, 1001, 2119, 0, 3) = true := by decide +kernel
theorem ok_X11_setHad : mOk mi_X11_setHad = true := by decide +kernel
theorem mw_X11_setHad : mwOne mi_X11_setHad (2187, 1001, 2186, 0, 10) = true := by decide +kernel
theorem ok_X11_newHearer_0 : tb_X11_newHearer_0.all (enOk yX11_newHearer cX11_newHearer 4 RX11) = true := by decide +kernel
theorem ok_X11_newHearer_1 : tb_X11_newHearer_1.all (enOk yX11_newHearer cX11_newHearer 4 RX11) = true := by decide +kernel
theorem ok_X11_newHearer : mOk mi_X11_newHearer = true := by
  show (tb_X11_newHearer).all _ = true
  unfold tb_X11_newHearer
  simp only [List.all_append, Bool.and_eq_true]
  exact ⟨ok_X11_newHearer_0, ok_X11_newHearer_1⟩
theorem mw_X11_newHearer : mwOne mi_X11_newHearer (1236, 1001, 1235, 0, 9999) = true := by decide +kernel
theorem ok_X11_isOfKind : mOk mi_X11_isOfKind = true := by decide +kernel
theorem mw_X11_isOfKind : mwOne mi_X11_isOfKind (4148, 1001, 4147, 1, 9999) = true := by decide +kernel
theorem ok_X11_knowsThen : mOk mi_X11_knowsThen = true := by decide +kernel
theorem mw_X11_knowsThen : mwOne mi_X11_knowsThen (2131, 1001, 2130, 0, 5) = true := by decide +kernel
theorem ok_X11_knowersThen : mOk mi_X11_knowersThen = true := by decide +kernel
theorem mw_X11_knowersThen : mwOne mi_X11_knowersThen (2124, 1001, 2123, 0, 4) = true := by decide +kernel
theorem ok_X11_moodThen : mOk mi_X11_moodThen = true := by decide +kernel
theorem mw_X11_moodThen : mwOne mi_X11_moodThen (2160, 1001, 2159, 0, 8) = true := by decide +kernel
theorem ok_X11_laughThen_0 : tb_X11_laughThen_0.all (enOk yX11_laughThen cX11_laughThen 10 RX11) = true := by decide +kernel
theorem ok_X11_laughThen_1 : tb_X11_laughThen_1.all (enOk yX11_laughThen cX11_laughThen 10 RX11) = true := by decide +kernel
theorem ok_X11_laughThen : mOk mi_X11_laughThen = true := by
  show (tb_X11_laughThen).all _ = true
  unfold tb_X11_laughThen
  simp only [List.all_append, Bool.and_eq_true]
  exact ⟨ok_X11_laughThen_0, ok_X11_laughThen_1⟩
theorem mw_X11_laughThen : mwOne mi_X11_laughThen (3104, 1001, 3103, 0, 27) = true := by decide +kernel
theorem ok_X11_laughNow : mOk mi_X11_laughNow = true := by decide +kernel
theorem mw_X11_laughNow : mwOne mi_X11_laughNow (3144, 1001, 3143, 0, 28) = true := by decide +kernel
theorem ok_X11_laughterThen : mOk mi_X11_laughterThen = true := by decide +kernel
theorem mw_X11_laughterThen : mwOne mi_X11_laughterThen (3100, 1001, 3099, 0, 26) = true := by decide +kernel
theorem ok_X11_laughter : mOk mi_X11_laughter = true := by decide +kernel
theorem mw_X11_laughter : mwOne mi_X11_laughter (3096, 1001, 3095, 0, 25) = true := by decide +kernel
theorem ok_X11_weigh : mOk mi_X11_weigh = true := by decide +kernel
theorem mw_X11_weigh : mwOne mi_X11_weigh (3162, 1001, 3161, 0, 29) = true := by decide +kernel
theorem ok_X11_bestBeside : mOk mi_X11_bestBeside = true := by decide +kernel
theorem mw_X11_bestBeside : mwOne mi_X11_bestBeside (3166, 1001, 3165, 0, 30) = true := by decide +kernel
theorem ok_X11_sumOf : mOk mi_X11_sumOf = true := by decide +kernel
theorem mw_X11_sumOf : mwOne mi_X11_sumOf (3181, 1001, 3180, 1, 9999) = true := by decide +kernel
theorem ok_X11_partOf : mOk mi_X11_partOf = true := by decide +kernel
theorem mw_X11_partOf : mwOne mi_X11_partOf (4012, 1001, 4011, 1, 9999) = true := by decide +kernel
theorem ok_X11_supperPlace : mOk mi_X11_supperPlace = true := by decide +kernel
theorem mw_X11_supperPlace : mwOne mi_X11_supperPlace (3201, 1001, 3200, 1, 9999) = true := by decide +kernel
theorem ok_X11_weighSuppers : mOk mi_X11_weighSuppers = true := by decide +kernel
theorem mw_X11_weighSuppers : mwOne mi_X11_weighSuppers (3198, 1001, 3197, 0, 31) = true := by decide +kernel
theorem ok_X11_storyInRow : mOk mi_X11_storyInRow = true := by decide +kernel
theorem mw_X11_storyInRow : mwOne mi_X11_storyInRow (3208, 1001, 3207, 1, 9999) = true := by decide +kernel
theorem ok_X11_worthOfRow : mOk mi_X11_worthOfRow = true := by decide +kernel
theorem mw_X11_worthOfRow : mwOne mi_X11_worthOfRow (3205, 1001, 3204, 0, 32) = true := by decide +kernel
theorem ok_X11_findSeats : mOk mi_X11_findSeats = true := by decide +kernel
theorem mw_X11_findSeats : mwOne mi_X11_findSeats (3216, 1001, 3215, 0, 33) = true := by decide +kernel
theorem ok_X11_servedBy : mOk mi_X11_servedBy = true := by decide +kernel
theorem mw_X11_servedBy : mwOne mi_X11_servedBy (3220, 1001, 3219, 0, 34) = true := by decide +kernel
theorem ok_X11_nextOrder_0 : tb_X11_nextOrder_0.all (enOk yX11_nextOrder cX11_nextOrder 5 RX11) = true := by decide +kernel
theorem ok_X11_nextOrder_1 : tb_X11_nextOrder_1.all (enOk yX11_nextOrder cX11_nextOrder 5 RX11) = true := by decide +kernel
theorem ok_X11_nextOrder : mOk mi_X11_nextOrder = true := by
  show (tb_X11_nextOrder).all _ = true
  unfold tb_X11_nextOrder
  simp only [List.all_append, Bool.and_eq_true]
  exact ⟨ok_X11_nextOrder_0, ok_X11_nextOrder_1⟩
theorem mw_X11_nextOrder : mwOne mi_X11_nextOrder (3227, 1001, 3226, 0, 35) = true := by decide +kernel
theorem ok_X11_swapSeats : mOk mi_X11_swapSeats = true := by decide +kernel
theorem mw_X11_swapSeats : mwOne mi_X11_swapSeats (3231, 1001, 3230, 0, 36) = true := by decide +kernel
theorem ok_X11_copy : mOk mi_X11_copy = true := by decide +kernel
theorem mw_X11_copy : mwOne mi_X11_copy (3223, 1001, 3222, 1, 9999) = true := by decide +kernel
theorem ok_J6_bitCount_0f7a4 : mOk mi_J6_bitCount_0f7a4 = true := by decide +kernel
theorem mw_J6_bitCount_0f7a4 : mwOne mi_J6_bitCount_0f7a4 (3151, 1019, 3150, 1, 9999) = true := by decide +kernel
