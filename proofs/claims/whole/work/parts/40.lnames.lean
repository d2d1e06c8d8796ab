abbrev b_Law_put : ByteArray := method_3_code
def y_Law_put : MethodName := ⟨R_Law, "put", "(LHopArena;III[J)I"⟩
def w_Law_put : List Cond := .codeWith y_Law_put b_Law_put 6 (some .int) [(0, 19, 22, 13), (0, 19, 26, 15)] :: wsA
abbrev b_Law_get : ByteArray := method_4_code
def y_Law_get : MethodName := ⟨R_Law, "get", "(LHopArena;II[J)I"⟩
def w_Law_get : List Cond := .codeWith y_Law_get b_Law_get 5 (some .int) [(0, 10, 13, 13), (0, 10, 17, 21)] :: wsA
abbrev b_Law_remove : ByteArray := method_5_code
def y_Law_remove : MethodName := ⟨R_Law, "remove", "(LHopArena;II[J)I"⟩
def w_Law_remove : List Cond := .codeWith y_Law_remove b_Law_remove 5 (some .int) [(0, 10, 13, 13), (0, 10, 17, 21)] :: wsA
abbrev b_Law_has : ByteArray := method_6_code
def y_Law_has : MethodName := ⟨R_Law, "has", "(LHopArena;II[J)I"⟩
def w_Law_has : List Cond := .codeWith y_Law_has b_Law_has 5 (some .int) [(0, 17, 20, 13)] :: wsA
abbrev b_Law_size : ByteArray := method_7_code
def y_Law_size : MethodName := ⟨R_Law, "size", "(LHopArena;I[J)I"⟩
def w_Law_size : List Cond := .codeWith y_Law_size b_Law_size 4 (some .int) [(0, 9, 12, 13)] :: wsA
abbrev b_Law_clear : ByteArray := method_8_code
def y_Law_clear : MethodName := ⟨R_Law, "clear", "(LHopArena;I[J)I"⟩
def w_Law_clear : List Cond := .codeWith y_Law_clear b_Law_clear 4 (some .int) [(0, 9, 12, 13)] :: wsA
abbrev b_Law_about : ByteArray := method_9_code
def y_Law_about : MethodName := ⟨R_Law, "about", "(LHopArena;II[J)I"⟩
def w_Law_about : List Cond := .codeWith y_Law_about b_Law_about 5 (some .int) [(0, 10, 13, 13), (0, 10, 17, 40)] :: wsA
abbrev b_Law_home : ByteArray := method_10_code
def y_Law_home : MethodName := ⟨R_Law, "home", "(LHopArena;II[J)I"⟩
def w_Law_home : List Cond := .codeWith y_Law_home b_Law_home 5 (some .int) [(0, 10, 13, 13)] :: wsA
abbrev b_Law_distance : ByteArray := method_11_code
def y_Law_distance : MethodName := ⟨R_Law, "distance", "(LHopArena;II[J)I"⟩
def w_Law_distance : List Cond := .codeWith y_Law_distance b_Law_distance 5 (some .int) [(0, 10, 13, 13), (0, 10, 17, 21)] :: wsA
abbrev b_Law_bits : ByteArray := method_12_code
def y_Law_bits : MethodName := ⟨R_Law, "bits", "(LHopArena;II[J)I"⟩
def w_Law_bits : List Cond := .codeWith y_Law_bits b_Law_bits 5 (some .int) [(0, 10, 13, 13), (0, 10, 17, 40)] :: wsA
abbrev b_Law_next : ByteArray := method_13_code
def y_Law_next : MethodName := ⟨R_Law, "next", "(LHopArena;II[J)I"⟩
def w_Law_next : List Cond := .codeWith y_Law_next b_Law_next 5 (some .int) [(0, 10, 13, 13), (0, 10, 17, 40)] :: wsA
abbrev b_Law_key : ByteArray := method_14_code
def y_Law_key : MethodName := ⟨R_Law, "key", "(LHopArena;II[J)I"⟩
def w_Law_key : List Cond := .codeWith y_Law_key b_Law_key 5 (some .int) [(0, 10, 13, 13), (0, 10, 17, 40), (0, 10, 21, 21)] :: wsA
abbrev b_Law_count : ByteArray := method_15_code
def y_Law_count : MethodName := ⟨R_Law, "count", "(LHopArena;I[J)I"⟩
def w_Law_count : List Cond := .codeWith y_Law_count b_Law_count 4 (some .int) [(0, 9, 12, 40)] :: wsA
theorem g_Law_Hop_put : GoodIn wsA (wsV R_Law 7 R_Hop y_Hop_put w_Hop_put) := gV m_105 m_106 m_107 m_40 m_108
theorem g_Law_Hop_get : GoodIn wsA (wsV R_Law 17 R_Hop y_Hop_get w_Hop_get) := gV m_284 m_285 m_286 m_40 m_287
theorem g_Law_Hop_remove : GoodIn wsA (wsV R_Law 23 R_Hop y_Hop_remove w_Hop_remove) := gV m_311 m_312 m_313 m_40 m_314
theorem g_Law_Hop_has : GoodIn wsA (wsV R_Law 26 R_Hop y_Hop_has w_Hop_has) := gV m_318 m_319 m_320 m_40 m_321
theorem g_Law_Hop_size : GoodIn wsA (wsV R_Law 30 R_Hop y_Hop_size w_Hop_size) := gV m_325 m_326 m_327 m_40 m_328
theorem g_Law_Hop_clear : GoodIn wsA (wsV R_Law 34 R_Hop y_Hop_clear w_Hop_clear) := gV m_336 m_337 m_338 m_40 m_339
theorem g_Law_Hop_about : GoodIn wsA (wsV R_Law 37 R_Hop y_Hop_about w_Hop_about) := gV m_344 m_345 m_346 m_40 m_347
theorem g_Law_Hop_home : GoodIn wsA (wsV R_Law 42 R_Hop y_Hop_home w_Hop_home) := gV m_367 m_368 m_369 m_40 m_370
theorem g_Law_Hop_distance : GoodIn wsA (wsV R_Law 45 R_Hop y_Hop_distance w_Hop_distance) := gV m_374 m_375 m_376 m_40 m_377
theorem g_Law_Hop_bits : GoodIn wsA (wsV R_Law 48 R_Hop y_Hop_bits w_Hop_bits) := gV m_381 m_382 m_383 m_40 m_384
theorem g_Law_Hop_next : GoodIn wsA (wsV R_Law 51 R_Hop y_Hop_next w_Hop_next) := gV m_396 m_397 m_398 m_40 m_399
theorem g_Law_Hop_key : GoodIn wsA (wsV R_Law 54 R_Hop y_Hop_key w_Hop_key) := gV m_403 m_404 m_405 m_40 m_406
theorem g_Law_Hop_count : GoodIn wsA (wsV R_Law 57 R_Hop y_Hop_count w_Hop_count) := gV m_411 m_412 m_413 m_40 m_414
theorem d_Law_put_0 : decode b_Law_put 0 = .ok (.aload 4, 2) := by decide +kernel
theorem d_Law_put_2 : decode b_Law_put 2 = .ok (.iconst 0, 1) := by decide +kernel
theorem d_Law_put_3 : decode b_Law_put 3 = .ok (.aload_n 0, 1) := by decide +kernel
theorem d_Law_put_4 : decode b_Law_put 4 = .ok (.iload_n 1, 1) := by decide +kernel
theorem d_Law_put_5 : decode b_Law_put 5 = .ok (.iload_n 2, 1) := by decide +kernel
theorem d_Law_put_6 : decode b_Law_put 6 = .ok (.iload_n 3, 1) := by decide +kernel
theorem d_Law_put_7 : decode b_Law_put 7 = .ok (.invokevirtual 7, 3) := by decide +kernel
theorem d_Law_put_10 : decode b_Law_put 10 = .ok (.ifCond .eq 7, 3) := by decide +kernel
theorem d_Law_put_13 : decode b_Law_put 13 = .ok (.lconst 1, 1) := by decide +kernel
theorem d_Law_put_14 : decode b_Law_put 14 = .ok (.goto 4, 3) := by decide +kernel
theorem d_Law_put_17 : decode b_Law_put 17 = .ok (.lconst 0, 1) := by decide +kernel
theorem d_Law_put_18 : decode b_Law_put 18 = .ok (.lastore, 1) := by decide +kernel
theorem d_Law_put_19 : decode b_Law_put 19 = .ok (.goto 11, 3) := by decide +kernel
theorem d_Law_put_22 : decode b_Law_put 22 = .ok (.astore 5, 2) := by decide +kernel
theorem d_Law_put_24 : decode b_Law_put 24 = .ok (.iconst 1, 1) := by decide +kernel
theorem d_Law_put_25 : decode b_Law_put 25 = .ok (.ireturn, 1) := by decide +kernel
theorem d_Law_put_26 : decode b_Law_put 26 = .ok (.astore 5, 2) := by decide +kernel
theorem d_Law_put_28 : decode b_Law_put 28 = .ok (.iconst 2, 1) := by decide +kernel
theorem d_Law_put_29 : decode b_Law_put 29 = .ok (.ireturn, 1) := by decide +kernel
theorem d_Law_put_30 : decode b_Law_put 30 = .ok (.iconst 0, 1) := by decide +kernel
theorem d_Law_put_31 : decode b_Law_put 31 = .ok (.ireturn, 1) := by decide +kernel
theorem d_Law_get_0 : decode b_Law_get 0 = .ok (.aload_n 3, 1) := by decide +kernel
theorem d_Law_get_1 : decode b_Law_get 1 = .ok (.iconst 0, 1) := by decide +kernel
theorem d_Law_get_2 : decode b_Law_get 2 = .ok (.aload_n 0, 1) := by decide +kernel
theorem d_Law_get_3 : decode b_Law_get 3 = .ok (.iload_n 1, 1) := by decide +kernel
theorem d_Law_get_4 : decode b_Law_get 4 = .ok (.iload_n 2, 1) := by decide +kernel
theorem d_Law_get_5 : decode b_Law_get 5 = .ok (.invokevirtual 17, 3) := by decide +kernel
theorem d_Law_get_8 : decode b_Law_get 8 = .ok (.i2l, 1) := by decide +kernel
theorem d_Law_get_9 : decode b_Law_get 9 = .ok (.lastore, 1) := by decide +kernel
theorem d_Law_get_10 : decode b_Law_get 10 = .ok (.goto 11, 3) := by decide +kernel
theorem d_Law_get_13 : decode b_Law_get 13 = .ok (.astore 4, 2) := by decide +kernel
theorem d_Law_get_15 : decode b_Law_get 15 = .ok (.iconst 1, 1) := by decide +kernel
theorem d_Law_get_16 : decode b_Law_get 16 = .ok (.ireturn, 1) := by decide +kernel
theorem d_Law_get_17 : decode b_Law_get 17 = .ok (.astore 4, 2) := by decide +kernel
theorem d_Law_get_19 : decode b_Law_get 19 = .ok (.iconst 2, 1) := by decide +kernel
theorem d_Law_get_20 : decode b_Law_get 20 = .ok (.ireturn, 1) := by decide +kernel
theorem d_Law_get_21 : decode b_Law_get 21 = .ok (.iconst 0, 1) := by decide +kernel
theorem d_Law_get_22 : decode b_Law_get 22 = .ok (.ireturn, 1) := by decide +kernel
theorem d_Law_remove_0 : decode b_Law_remove 0 = .ok (.aload_n 3, 1) := by decide +kernel
theorem d_Law_remove_1 : decode b_Law_remove 1 = .ok (.iconst 0, 1) := by decide +kernel
theorem d_Law_remove_2 : decode b_Law_remove 2 = .ok (.aload_n 0, 1) := by decide +kernel
theorem d_Law_remove_3 : decode b_Law_remove 3 = .ok (.iload_n 1, 1) := by decide +kernel
theorem d_Law_remove_4 : decode b_Law_remove 4 = .ok (.iload_n 2, 1) := by decide +kernel
theorem d_Law_remove_5 : decode b_Law_remove 5 = .ok (.invokevirtual 23, 3) := by decide +kernel
theorem d_Law_remove_8 : decode b_Law_remove 8 = .ok (.i2l, 1) := by decide +kernel
theorem d_Law_remove_9 : decode b_Law_remove 9 = .ok (.lastore, 1) := by decide +kernel
theorem d_Law_remove_10 : decode b_Law_remove 10 = .ok (.goto 11, 3) := by decide +kernel
theorem d_Law_remove_13 : decode b_Law_remove 13 = .ok (.astore 4, 2) := by decide +kernel
theorem d_Law_remove_15 : decode b_Law_remove 15 = .ok (.iconst 1, 1) := by decide +kernel
theorem d_Law_remove_16 : decode b_Law_remove 16 = .ok (.ireturn, 1) := by decide +kernel
theorem d_Law_remove_17 : decode b_Law_remove 17 = .ok (.astore 4, 2) := by decide +kernel
theorem d_Law_remove_19 : decode b_Law_remove 19 = .ok (.iconst 2, 1) := by decide +kernel
theorem d_Law_remove_20 : decode b_Law_remove 20 = .ok (.ireturn, 1) := by decide +kernel
theorem d_Law_remove_21 : decode b_Law_remove 21 = .ok (.iconst 0, 1) := by decide +kernel
theorem d_Law_remove_22 : decode b_Law_remove 22 = .ok (.ireturn, 1) := by decide +kernel
theorem d_Law_has_0 : decode b_Law_has 0 = .ok (.aload_n 3, 1) := by decide +kernel
theorem d_Law_has_1 : decode b_Law_has 1 = .ok (.iconst 0, 1) := by decide +kernel
theorem d_Law_has_2 : decode b_Law_has 2 = .ok (.aload_n 0, 1) := by decide +kernel
theorem d_Law_has_3 : decode b_Law_has 3 = .ok (.iload_n 1, 1) := by decide +kernel
theorem d_Law_has_4 : decode b_Law_has 4 = .ok (.iload_n 2, 1) := by decide +kernel
theorem d_Law_has_5 : decode b_Law_has 5 = .ok (.invokevirtual 26, 3) := by decide +kernel
theorem d_Law_has_8 : decode b_Law_has 8 = .ok (.ifCond .eq 7, 3) := by decide +kernel
theorem d_Law_has_11 : decode b_Law_has 11 = .ok (.lconst 1, 1) := by decide +kernel
theorem d_Law_has_12 : decode b_Law_has 12 = .ok (.goto 4, 3) := by decide +kernel
theorem d_Law_has_15 : decode b_Law_has 15 = .ok (.lconst 0, 1) := by decide +kernel
theorem d_Law_has_16 : decode b_Law_has 16 = .ok (.lastore, 1) := by decide +kernel
theorem d_Law_has_17 : decode b_Law_has 17 = .ok (.goto 7, 3) := by decide +kernel
theorem d_Law_has_20 : decode b_Law_has 20 = .ok (.astore 4, 2) := by decide +kernel
theorem d_Law_has_22 : decode b_Law_has 22 = .ok (.iconst 1, 1) := by decide +kernel
theorem d_Law_has_23 : decode b_Law_has 23 = .ok (.ireturn, 1) := by decide +kernel
theorem d_Law_has_24 : decode b_Law_has 24 = .ok (.iconst 0, 1) := by decide +kernel
theorem d_Law_has_25 : decode b_Law_has 25 = .ok (.ireturn, 1) := by decide +kernel
theorem d_Law_size_0 : decode b_Law_size 0 = .ok (.aload_n 2, 1) := by decide +kernel
theorem d_Law_size_1 : decode b_Law_size 1 = .ok (.iconst 0, 1) := by decide +kernel
theorem d_Law_size_2 : decode b_Law_size 2 = .ok (.aload_n 0, 1) := by decide +kernel
theorem d_Law_size_3 : decode b_Law_size 3 = .ok (.iload_n 1, 1) := by decide +kernel
theorem d_Law_size_4 : decode b_Law_size 4 = .ok (.invokevirtual 30, 3) := by decide +kernel
theorem d_Law_size_7 : decode b_Law_size 7 = .ok (.i2l, 1) := by decide +kernel
theorem d_Law_size_8 : decode b_Law_size 8 = .ok (.lastore, 1) := by decide +kernel
theorem d_Law_size_9 : decode b_Law_size 9 = .ok (.goto 6, 3) := by decide +kernel
theorem d_Law_size_12 : decode b_Law_size 12 = .ok (.astore_n 3, 1) := by decide +kernel
theorem d_Law_size_13 : decode b_Law_size 13 = .ok (.iconst 1, 1) := by decide +kernel
theorem d_Law_size_14 : decode b_Law_size 14 = .ok (.ireturn, 1) := by decide +kernel
theorem d_Law_size_15 : decode b_Law_size 15 = .ok (.iconst 0, 1) := by decide +kernel
theorem d_Law_size_16 : decode b_Law_size 16 = .ok (.ireturn, 1) := by decide +kernel
theorem d_Law_clear_0 : decode b_Law_clear 0 = .ok (.aload_n 2, 1) := by decide +kernel
theorem d_Law_clear_1 : decode b_Law_clear 1 = .ok (.iconst 0, 1) := by decide +kernel
theorem d_Law_clear_2 : decode b_Law_clear 2 = .ok (.aload_n 0, 1) := by decide +kernel
theorem d_Law_clear_3 : decode b_Law_clear 3 = .ok (.iload_n 1, 1) := by decide +kernel
theorem d_Law_clear_4 : decode b_Law_clear 4 = .ok (.invokevirtual 34, 3) := by decide +kernel
theorem d_Law_clear_7 : decode b_Law_clear 7 = .ok (.i2l, 1) := by decide +kernel
theorem d_Law_clear_8 : decode b_Law_clear 8 = .ok (.lastore, 1) := by decide +kernel
theorem d_Law_clear_9 : decode b_Law_clear 9 = .ok (.goto 6, 3) := by decide +kernel
theorem d_Law_clear_12 : decode b_Law_clear 12 = .ok (.astore_n 3, 1) := by decide +kernel
theorem d_Law_clear_13 : decode b_Law_clear 13 = .ok (.iconst 1, 1) := by decide +kernel
theorem d_Law_clear_14 : decode b_Law_clear 14 = .ok (.ireturn, 1) := by decide +kernel
theorem d_Law_clear_15 : decode b_Law_clear 15 = .ok (.iconst 0, 1) := by decide +kernel
theorem d_Law_clear_16 : decode b_Law_clear 16 = .ok (.ireturn, 1) := by decide +kernel
theorem d_Law_about_0 : decode b_Law_about 0 = .ok (.aload_n 3, 1) := by decide +kernel
theorem d_Law_about_1 : decode b_Law_about 1 = .ok (.iconst 0, 1) := by decide +kernel
theorem d_Law_about_2 : decode b_Law_about 2 = .ok (.aload_n 0, 1) := by decide +kernel
theorem d_Law_about_3 : decode b_Law_about 3 = .ok (.iload_n 1, 1) := by decide +kernel
theorem d_Law_about_4 : decode b_Law_about 4 = .ok (.iload_n 2, 1) := by decide +kernel
theorem d_Law_about_5 : decode b_Law_about 5 = .ok (.invokevirtual 37, 3) := by decide +kernel
theorem d_Law_about_8 : decode b_Law_about 8 = .ok (.i2l, 1) := by decide +kernel
theorem d_Law_about_9 : decode b_Law_about 9 = .ok (.lastore, 1) := by decide +kernel
theorem d_Law_about_10 : decode b_Law_about 10 = .ok (.goto 11, 3) := by decide +kernel
theorem d_Law_about_13 : decode b_Law_about 13 = .ok (.astore 4, 2) := by decide +kernel
theorem d_Law_about_15 : decode b_Law_about 15 = .ok (.iconst 1, 1) := by decide +kernel
theorem d_Law_about_16 : decode b_Law_about 16 = .ok (.ireturn, 1) := by decide +kernel
theorem d_Law_about_17 : decode b_Law_about 17 = .ok (.astore 4, 2) := by decide +kernel
theorem d_Law_about_19 : decode b_Law_about 19 = .ok (.iconst 2, 1) := by decide +kernel
theorem d_Law_about_20 : decode b_Law_about 20 = .ok (.ireturn, 1) := by decide +kernel
theorem d_Law_about_21 : decode b_Law_about 21 = .ok (.iconst 0, 1) := by decide +kernel
theorem d_Law_about_22 : decode b_Law_about 22 = .ok (.ireturn, 1) := by decide +kernel
theorem d_Law_home_0 : decode b_Law_home 0 = .ok (.aload_n 3, 1) := by decide +kernel
theorem d_Law_home_1 : decode b_Law_home 1 = .ok (.iconst 0, 1) := by decide +kernel
theorem d_Law_home_2 : decode b_Law_home 2 = .ok (.aload_n 0, 1) := by decide +kernel
theorem d_Law_home_3 : decode b_Law_home 3 = .ok (.iload_n 1, 1) := by decide +kernel
theorem d_Law_home_4 : decode b_Law_home 4 = .ok (.iload_n 2, 1) := by decide +kernel
theorem d_Law_home_5 : decode b_Law_home 5 = .ok (.invokevirtual 42, 3) := by decide +kernel
theorem d_Law_home_8 : decode b_Law_home 8 = .ok (.i2l, 1) := by decide +kernel
theorem d_Law_home_9 : decode b_Law_home 9 = .ok (.lastore, 1) := by decide +kernel
theorem d_Law_home_10 : decode b_Law_home 10 = .ok (.goto 7, 3) := by decide +kernel
theorem d_Law_home_13 : decode b_Law_home 13 = .ok (.astore 4, 2) := by decide +kernel
theorem d_Law_home_15 : decode b_Law_home 15 = .ok (.iconst 1, 1) := by decide +kernel
theorem d_Law_home_16 : decode b_Law_home 16 = .ok (.ireturn, 1) := by decide +kernel
theorem d_Law_home_17 : decode b_Law_home 17 = .ok (.iconst 0, 1) := by decide +kernel
theorem d_Law_home_18 : decode b_Law_home 18 = .ok (.ireturn, 1) := by decide +kernel
theorem d_Law_distance_0 : decode b_Law_distance 0 = .ok (.aload_n 3, 1) := by decide +kernel
theorem d_Law_distance_1 : decode b_Law_distance 1 = .ok (.iconst 0, 1) := by decide +kernel
theorem d_Law_distance_2 : decode b_Law_distance 2 = .ok (.aload_n 0, 1) := by decide +kernel
theorem d_Law_distance_3 : decode b_Law_distance 3 = .ok (.iload_n 1, 1) := by decide +kernel
theorem d_Law_distance_4 : decode b_Law_distance 4 = .ok (.iload_n 2, 1) := by decide +kernel
theorem d_Law_distance_5 : decode b_Law_distance 5 = .ok (.invokevirtual 45, 3) := by decide +kernel
theorem d_Law_distance_8 : decode b_Law_distance 8 = .ok (.i2l, 1) := by decide +kernel
theorem d_Law_distance_9 : decode b_Law_distance 9 = .ok (.lastore, 1) := by decide +kernel
theorem d_Law_distance_10 : decode b_Law_distance 10 = .ok (.goto 11, 3) := by decide +kernel
theorem d_Law_distance_13 : decode b_Law_distance 13 = .ok (.astore 4, 2) := by decide +kernel
theorem d_Law_distance_15 : decode b_Law_distance 15 = .ok (.iconst 1, 1) := by decide +kernel
theorem d_Law_distance_16 : decode b_Law_distance 16 = .ok (.ireturn, 1) := by decide +kernel
theorem d_Law_distance_17 : decode b_Law_distance 17 = .ok (.astore 4, 2) := by decide +kernel
theorem d_Law_distance_19 : decode b_Law_distance 19 = .ok (.iconst 2, 1) := by decide +kernel
theorem d_Law_distance_20 : decode b_Law_distance 20 = .ok (.ireturn, 1) := by decide +kernel
theorem d_Law_distance_21 : decode b_Law_distance 21 = .ok (.iconst 0, 1) := by decide +kernel
theorem d_Law_distance_22 : decode b_Law_distance 22 = .ok (.ireturn, 1) := by decide +kernel
theorem d_Law_bits_0 : decode b_Law_bits 0 = .ok (.aload_n 3, 1) := by decide +kernel
theorem d_Law_bits_1 : decode b_Law_bits 1 = .ok (.iconst 0, 1) := by decide +kernel
theorem d_Law_bits_2 : decode b_Law_bits 2 = .ok (.aload_n 0, 1) := by decide +kernel
theorem d_Law_bits_3 : decode b_Law_bits 3 = .ok (.iload_n 1, 1) := by decide +kernel
theorem d_Law_bits_4 : decode b_Law_bits 4 = .ok (.iload_n 2, 1) := by decide +kernel
theorem d_Law_bits_5 : decode b_Law_bits 5 = .ok (.invokevirtual 48, 3) := by decide +kernel
theorem d_Law_bits_8 : decode b_Law_bits 8 = .ok (.i2l, 1) := by decide +kernel
theorem d_Law_bits_9 : decode b_Law_bits 9 = .ok (.lastore, 1) := by decide +kernel
theorem d_Law_bits_10 : decode b_Law_bits 10 = .ok (.goto 11, 3) := by decide +kernel
theorem d_Law_bits_13 : decode b_Law_bits 13 = .ok (.astore 4, 2) := by decide +kernel
theorem d_Law_bits_15 : decode b_Law_bits 15 = .ok (.iconst 1, 1) := by decide +kernel
theorem d_Law_bits_16 : decode b_Law_bits 16 = .ok (.ireturn, 1) := by decide +kernel
theorem d_Law_bits_17 : decode b_Law_bits 17 = .ok (.astore 4, 2) := by decide +kernel
theorem d_Law_bits_19 : decode b_Law_bits 19 = .ok (.iconst 2, 1) := by decide +kernel
theorem d_Law_bits_20 : decode b_Law_bits 20 = .ok (.ireturn, 1) := by decide +kernel
theorem d_Law_bits_21 : decode b_Law_bits 21 = .ok (.iconst 0, 1) := by decide +kernel
theorem d_Law_bits_22 : decode b_Law_bits 22 = .ok (.ireturn, 1) := by decide +kernel
theorem d_Law_next_0 : decode b_Law_next 0 = .ok (.aload_n 3, 1) := by decide +kernel
theorem d_Law_next_1 : decode b_Law_next 1 = .ok (.iconst 0, 1) := by decide +kernel
theorem d_Law_next_2 : decode b_Law_next 2 = .ok (.aload_n 0, 1) := by decide +kernel
theorem d_Law_next_3 : decode b_Law_next 3 = .ok (.iload_n 1, 1) := by decide +kernel
theorem d_Law_next_4 : decode b_Law_next 4 = .ok (.iload_n 2, 1) := by decide +kernel
theorem d_Law_next_5 : decode b_Law_next 5 = .ok (.invokevirtual 51, 3) := by decide +kernel
theorem d_Law_next_8 : decode b_Law_next 8 = .ok (.i2l, 1) := by decide +kernel
theorem d_Law_next_9 : decode b_Law_next 9 = .ok (.lastore, 1) := by decide +kernel
theorem d_Law_next_10 : decode b_Law_next 10 = .ok (.goto 11, 3) := by decide +kernel
theorem d_Law_next_13 : decode b_Law_next 13 = .ok (.astore 4, 2) := by decide +kernel
theorem d_Law_next_15 : decode b_Law_next 15 = .ok (.iconst 1, 1) := by decide +kernel
theorem d_Law_next_16 : decode b_Law_next 16 = .ok (.ireturn, 1) := by decide +kernel
theorem d_Law_next_17 : decode b_Law_next 17 = .ok (.astore 4, 2) := by decide +kernel
theorem d_Law_next_19 : decode b_Law_next 19 = .ok (.iconst 2, 1) := by decide +kernel
theorem d_Law_next_20 : decode b_Law_next 20 = .ok (.ireturn, 1) := by decide +kernel
theorem d_Law_next_21 : decode b_Law_next 21 = .ok (.iconst 0, 1) := by decide +kernel
theorem d_Law_next_22 : decode b_Law_next 22 = .ok (.ireturn, 1) := by decide +kernel
theorem d_Law_key_0 : decode b_Law_key 0 = .ok (.aload_n 3, 1) := by decide +kernel
theorem d_Law_key_1 : decode b_Law_key 1 = .ok (.iconst 0, 1) := by decide +kernel
theorem d_Law_key_2 : decode b_Law_key 2 = .ok (.aload_n 0, 1) := by decide +kernel
theorem d_Law_key_3 : decode b_Law_key 3 = .ok (.iload_n 1, 1) := by decide +kernel
theorem d_Law_key_4 : decode b_Law_key 4 = .ok (.iload_n 2, 1) := by decide +kernel
theorem d_Law_key_5 : decode b_Law_key 5 = .ok (.invokevirtual 54, 3) := by decide +kernel
theorem d_Law_key_8 : decode b_Law_key 8 = .ok (.i2l, 1) := by decide +kernel
theorem d_Law_key_9 : decode b_Law_key 9 = .ok (.lastore, 1) := by decide +kernel
theorem d_Law_key_10 : decode b_Law_key 10 = .ok (.goto 15, 3) := by decide +kernel
theorem d_Law_key_13 : decode b_Law_key 13 = .ok (.astore 4, 2) := by decide +kernel
theorem d_Law_key_15 : decode b_Law_key 15 = .ok (.iconst 1, 1) := by decide +kernel
theorem d_Law_key_16 : decode b_Law_key 16 = .ok (.ireturn, 1) := by decide +kernel
theorem d_Law_key_17 : decode b_Law_key 17 = .ok (.astore 4, 2) := by decide +kernel
theorem d_Law_key_19 : decode b_Law_key 19 = .ok (.iconst 2, 1) := by decide +kernel
theorem d_Law_key_20 : decode b_Law_key 20 = .ok (.ireturn, 1) := by decide +kernel
theorem d_Law_key_21 : decode b_Law_key 21 = .ok (.astore 4, 2) := by decide +kernel
theorem d_Law_key_23 : decode b_Law_key 23 = .ok (.iconst 3, 1) := by decide +kernel
theorem d_Law_key_24 : decode b_Law_key 24 = .ok (.ireturn, 1) := by decide +kernel
theorem d_Law_key_25 : decode b_Law_key 25 = .ok (.iconst 0, 1) := by decide +kernel
theorem d_Law_key_26 : decode b_Law_key 26 = .ok (.ireturn, 1) := by decide +kernel
theorem d_Law_count_0 : decode b_Law_count 0 = .ok (.aload_n 2, 1) := by decide +kernel
theorem d_Law_count_1 : decode b_Law_count 1 = .ok (.iconst 0, 1) := by decide +kernel
theorem d_Law_count_2 : decode b_Law_count 2 = .ok (.aload_n 0, 1) := by decide +kernel
theorem d_Law_count_3 : decode b_Law_count 3 = .ok (.iload_n 1, 1) := by decide +kernel
theorem d_Law_count_4 : decode b_Law_count 4 = .ok (.invokevirtual 57, 3) := by decide +kernel
theorem d_Law_count_7 : decode b_Law_count 7 = .ok (.i2l, 1) := by decide +kernel
theorem d_Law_count_8 : decode b_Law_count 8 = .ok (.lastore, 1) := by decide +kernel
theorem d_Law_count_9 : decode b_Law_count 9 = .ok (.goto 6, 3) := by decide +kernel
theorem d_Law_count_12 : decode b_Law_count 12 = .ok (.astore_n 3, 1) := by decide +kernel
theorem d_Law_count_13 : decode b_Law_count 13 = .ok (.iconst 1, 1) := by decide +kernel
theorem d_Law_count_14 : decode b_Law_count 14 = .ok (.ireturn, 1) := by decide +kernel
theorem d_Law_count_15 : decode b_Law_count 15 = .ok (.iconst 0, 1) := by decide +kernel
theorem d_Law_count_16 : decode b_Law_count 16 = .ok (.ireturn, 1) := by decide +kernel
