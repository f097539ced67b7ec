theorem qb_m2 : (Int8.ofInt (-2)).toInt32 = (-2) := by decide
theorem qb_6 : (Int8.ofInt 6).toInt32 = 6 := by decide
theorem qb_7 : (Int8.ofInt 7).toInt32 = 7 := by decide
theorem qb_8 : (Int8.ofInt 8).toInt32 = 8 := by decide
theorem qb_9 : (Int8.ofInt 9).toInt32 = 9 := by decide
theorem qb_10 : (Int8.ofInt 10).toInt32 = 10 := by decide
theorem qb_11 : (Int8.ofInt 11).toInt32 = 11 := by decide
theorem qb_12 : (Int8.ofInt 12).toInt32 = 12 := by decide
theorem qb_14 : (Int8.ofInt 14).toInt32 = 14 := by decide
theorem qb_15 : (Int8.ofInt 15).toInt32 = 15 := by decide
theorem qb_16 : (Int8.ofInt 16).toInt32 = 16 := by decide
theorem qb_20 : (Int8.ofInt 20).toInt32 = 20 := by decide
theorem qb_21 : (Int8.ofInt 21).toInt32 = 21 := by decide
theorem qb_24 : (Int8.ofInt 24).toInt32 = 24 := by decide
theorem qb_25 : (Int8.ofInt 25).toInt32 = 25 := by decide
theorem qb_30 : (Int8.ofInt 30).toInt32 = 30 := by decide
theorem qb_31 : (Int8.ofInt 31).toInt32 = 31 := by decide
theorem qb_32 : (Int8.ofInt 32).toInt32 = 32 := by decide
theorem qb_40 : (Int8.ofInt 40).toInt32 = 40 := by decide
theorem qb_41 : (Int8.ofInt 41).toInt32 = 41 := by decide
theorem qb_44 : (Int8.ofInt 44).toInt32 = 44 := by decide
theorem qb_45 : (Int8.ofInt 45).toInt32 = 45 := by decide
theorem qb_48 : (Int8.ofInt 48).toInt32 = 48 := by decide
theorem qb_51 : (Int8.ofInt 51).toInt32 = 51 := by decide
theorem qb_57 : (Int8.ofInt 57).toInt32 = 57 := by decide
theorem qb_58 : (Int8.ofInt 58).toInt32 = 58 := by decide
theorem qb_59 : (Int8.ofInt 59).toInt32 = 59 := by decide
theorem qb_63 : (Int8.ofInt 63).toInt32 = 63 := by decide
theorem qb_64 : (Int8.ofInt 64).toInt32 = 64 := by decide
theorem qb_97 : (Int8.ofInt 97).toInt32 = 97 := by decide
theorem qb_98 : (Int8.ofInt 98).toInt32 = 98 := by decide
theorem qb_106 : (Int8.ofInt 106).toInt32 = 106 := by decide
theorem qb_111 : (Int8.ofInt 111).toInt32 = 111 := by decide
theorem qb_115 : (Int8.ofInt 115).toInt32 = 115 := by decide
theorem qb_120 : (Int8.ofInt 120).toInt32 = 120 := by decide
theorem qb_122 : (Int8.ofInt 122).toInt32 = 122 := by decide
theorem qb_126 : (Int8.ofInt 126).toInt32 = 126 := by decide
theorem qb_127 : (Int8.ofInt 127).toInt32 = 127 := by decide
theorem qi_m1 : Int32.ofInt (-1) = (-1) := by decide
theorem qi_0 : Int32.ofInt 0 = 0 := by decide
theorem qi_1 : Int32.ofInt 1 = 1 := by decide
theorem qi_2 : Int32.ofInt 2 = 2 := by decide
theorem qi_3 : Int32.ofInt 3 = 3 := by decide
theorem qi_4 : Int32.ofInt 4 = 4 := by decide
theorem qi_5 : Int32.ofInt 5 = 5 := by decide
theorem qs_m4096 : (Int16.ofInt (-4096)).toInt32 = (-4096) := by decide
theorem qs_128 : (Int16.ofInt 128).toInt32 = 128 := by decide
theorem qs_185 : (Int16.ofInt 185).toInt32 = 185 := by decide
theorem qs_192 : (Int16.ofInt 192).toInt32 = 192 := by decide
theorem qs_255 : (Int16.ofInt 255).toInt32 = 255 := by decide
theorem qs_306 : (Int16.ofInt 306).toInt32 = 306 := by decide
theorem qs_400 : (Int16.ofInt 400).toInt32 = 400 := by decide
theorem qs_401 : (Int16.ofInt 401).toInt32 = 401 := by decide
theorem qs_512 : (Int16.ofInt 512).toInt32 = 512 := by decide
theorem qs_564 : (Int16.ofInt 564).toInt32 = 564 := by decide
theorem qs_817 : (Int16.ofInt 817).toInt32 = 817 := by decide
theorem qs_887 : (Int16.ofInt 887).toInt32 = 887 := by decide
theorem qs_1023 : (Int16.ofInt 1023).toInt32 = 1023 := by decide
theorem qs_1589 : (Int16.ofInt 1589).toInt32 = 1589 := by decide
theorem qs_1651 : (Int16.ofInt 1651).toInt32 = 1651 := by decide
theorem qs_1782 : (Int16.ofInt 1782).toInt32 = 1782 := by decide
theorem qs_1851 : (Int16.ofInt 1851).toInt32 = 1851 := by decide
theorem qs_2000 : (Int16.ofInt 2000).toInt32 = 2000 := by decide
theorem qs_2016 : (Int16.ofInt 2016).toInt32 = 2016 := by decide
theorem qs_2046 : (Int16.ofInt 2046).toInt32 = 2046 := by decide
theorem qs_2048 : (Int16.ofInt 2048).toInt32 = 2048 := by decide
theorem qs_2234 : (Int16.ofInt 2234).toInt32 = 2234 := by decide
theorem qs_2360 : (Int16.ofInt 2360).toInt32 = 2360 := by decide
theorem qs_2865 : (Int16.ofInt 2865).toInt32 = 2865 := by decide
theorem qs_3637 : (Int16.ofInt 3637).toInt32 = 3637 := by decide
theorem qs_4094 : (Int16.ofInt 4094).toInt32 = 4094 := by decide
theorem qs_4096 : (Int16.ofInt 4096).toInt32 = 4096 := by decide
theorem qs_4147 : (Int16.ofInt 4147).toInt32 = 4147 := by decide
theorem qs_4402 : (Int16.ofInt 4402).toInt32 = 4402 := by decide
theorem qs_4660 : (Int16.ofInt 4660).toInt32 = 4660 := by decide
theorem qs_4913 : (Int16.ofInt 4913).toInt32 = 4913 := by decide
theorem qs_6450 : (Int16.ofInt 6450).toInt32 = 6450 := by decide
theorem qs_6961 : (Int16.ofInt 6961).toInt32 = 6961 := by decide
theorem qs_8243 : (Int16.ofInt 8243).toInt32 = 8243 := by decide
theorem qs_8498 : (Int16.ofInt 8498).toInt32 = 8498 := by decide
theorem qs_9009 : (Int16.ofInt 9009).toInt32 = 9009 := by decide
theorem qs_9781 : (Int16.ofInt 9781).toInt32 = 9781 := by decide
theorem qs_10552 : (Int16.ofInt 10552).toInt32 = 10552 := by decide
theorem qs_11057 : (Int16.ofInt 11057).toInt32 = 11057 := by decide
theorem qs_11829 : (Int16.ofInt 11829).toInt32 = 11829 := by decide
theorem qs_12594 : (Int16.ofInt 12594).toInt32 = 12594 := by decide
theorem qs_13105 : (Int16.ofInt 13105).toInt32 = 13105 := by decide
theorem qs_13877 : (Int16.ofInt 13877).toInt32 = 13877 := by decide
theorem qs_14642 : (Int16.ofInt 14642).toInt32 = 14642 := by decide
theorem qs_15153 : (Int16.ofInt 15153).toInt32 = 15153 := by decide
theorem qs_15925 : (Int16.ofInt 15925).toInt32 = 15925 := by decide
theorem gf_X0_9 : g_F RX0 9 0 0 := ⟨_, _, _, rfl, by decide, tin_wsX00, tw76⟩
theorem gf_X0_15 : g_F RX0 15 0 4 := ⟨_, _, _, rfl, by decide, tin_wsX00, tw77⟩
theorem gf_X0_19 : g_F RX0 19 0 5 := ⟨_, _, _, rfl, by decide, tin_wsX00, tw78⟩
theorem gf_X0_25 : g_F RX0 25 0 6 := ⟨_, _, _, rfl, by decide, tin_wsX00, tw82⟩
theorem gf_X0_34 : g_F RX0 34 0 7 := ⟨_, _, _, rfl, by decide, tin_wsX00, tw86⟩
theorem gf_X0_41 : g_F RX0 41 0 8 := ⟨_, _, _, rfl, by decide, tin_wsX00, tw201⟩
theorem gw_X0_41 : g_Fw RX0 41 0 8 (tyX0 8) := ⟨_, _, _, tyX0, rfl, by decide, tin_wsX00, tw201, tyX0_ok, nmX0, rfl, tyX0_ok 8 (by decide)⟩
theorem gf_X0_45 : g_F RX0 45 0 1 := ⟨_, _, _, rfl, by decide, tin_wsX00, tw202⟩
theorem gw_X0_45 : g_Fw RX0 45 0 1 (tyX0 1) := ⟨_, _, _, tyX0, rfl, by decide, tin_wsX00, tw202, tyX0_ok, nmX0, rfl, tyX0_ok 1 (by decide)⟩
theorem gf_X0_48 : g_F RX0 48 2 0 := ⟨_, _, _, rfl, by decide, tin_wsX30, tw203⟩
theorem gw_X0_48 : g_Fw RX0 48 2 0 (tyX3 0) := ⟨_, _, _, tyX3, rfl, by decide, tin_wsX30, tw203, tyX3_ok, nmX3, rfl, tyX3_ok 0 (by decide)⟩
theorem gf_X0_49 : g_F RX0 49 0 2 := ⟨_, _, _, rfl, by decide, tin_wsX00, tw204⟩
theorem gw_X0_49 : g_Fw RX0 49 0 2 (tyX0 2) := ⟨_, _, _, tyX0, rfl, by decide, tin_wsX00, tw204, tyX0_ok, nmX0, rfl, tyX0_ok 2 (by decide)⟩
theorem gf_X0_52 : g_F RX0 52 0 3 := ⟨_, _, _, rfl, by decide, tin_wsX00, tw205⟩
theorem gw_X0_52 : g_Fw RX0 52 0 3 (tyX0 3) := ⟨_, _, _, tyX0, rfl, by decide, tin_wsX00, tw205, tyX0_ok, nmX0, rfl, tyX0_ok 3 (by decide)⟩
theorem gf_X0_77 : g_F RX0 77 0 9 := ⟨_, _, _, rfl, by decide, tin_wsX00, tw258⟩
theorem gw_X0_77 : g_Fw RX0 77 0 9 (tyX0 9) := ⟨_, _, _, tyX0, rfl, by decide, tin_wsX00, tw258, tyX0_ok, nmX0, rfl, tyX0_ok 9 (by decide)⟩
theorem gf_X0_81 : g_F RX0 81 0 10 := ⟨_, _, _, rfl, by decide, tin_wsX00, tw259⟩
theorem gw_X0_81 : g_Fw RX0 81 0 10 (tyX0 10) := ⟨_, _, _, tyX0, rfl, by decide, tin_wsX00, tw259, tyX0_ok, nmX0, rfl, tyX0_ok 10 (by decide)⟩
theorem gf_X0_85 : g_F RX0 85 0 11 := ⟨_, _, _, rfl, by decide, tin_wsX00, tw260⟩
theorem gw_X0_85 : g_Fw RX0 85 0 11 (tyX0 11) := ⟨_, _, _, tyX0, rfl, by decide, tin_wsX00, tw260, tyX0_ok, nmX0, rfl, tyX0_ok 11 (by decide)⟩
theorem gf_X0_88 : g_F RX0 88 0 12 := ⟨_, _, _, rfl, by decide, tin_wsX00, tw261⟩
theorem gw_X0_88 : g_Fw RX0 88 0 12 (tyX0 12) := ⟨_, _, _, tyX0, rfl, by decide, tin_wsX00, tw261, tyX0_ok, nmX0, rfl, tyX0_ok 12 (by decide)⟩
theorem gf_X0_91 : g_F RX0 91 0 13 := ⟨_, _, _, rfl, by decide, tin_wsX00, tw262⟩
theorem gw_X0_91 : g_Fw RX0 91 0 13 (tyX0 13) := ⟨_, _, _, tyX0, rfl, by decide, tin_wsX00, tw262, tyX0_ok, nmX0, rfl, tyX0_ok 13 (by decide)⟩
theorem gf_X0_94 : g_F RX0 94 0 14 := ⟨_, _, _, rfl, by decide, tin_wsX00, tw263⟩
theorem gw_X0_94 : g_Fw RX0 94 0 14 (tyX0 14) := ⟨_, _, _, tyX0, rfl, by decide, tin_wsX00, tw263, tyX0_ok, nmX0, rfl, tyX0_ok 14 (by decide)⟩
theorem gf_X10_23 : g_F RX10 23 7 0 := ⟨_, _, _, rfl, by decide, tin_wsX100, tw28⟩
theorem gf_X10_29 : g_F RX10 29 7 1 := ⟨_, _, _, rfl, by decide, tin_wsX100, tw30⟩
theorem gf_X10_37 : g_F RX10 37 7 2 := ⟨_, _, _, rfl, by decide, tin_wsX100, tw36⟩
theorem gf_X10_46 : g_F RX10 46 7 3 := ⟨_, _, _, rfl, by decide, tin_wsX100, tw40⟩
theorem gf_X10_57 : g_F RX10 57 4 1 := ⟨_, _, _, rfl, by decide, tin_wsX70, tw135⟩
theorem gw_X10_57 : g_Fw RX10 57 4 1 (tyX7 1) := ⟨_, _, _, tyX7, rfl, by decide, tin_wsX70, tw135, tyX7_ok, nmX7, rfl, tyX7_ok 1 (by decide)⟩
theorem gf_X10_78 : g_F RX10 78 0 2 := ⟨_, _, _, rfl, by decide, tin_wsX00, tw183⟩
theorem gw_X10_78 : g_Fw RX10 78 0 2 (tyX0 2) := ⟨_, _, _, tyX0, rfl, by decide, tin_wsX00, tw183, tyX0_ok, nmX0, rfl, tyX0_ok 2 (by decide)⟩
theorem gf_X10_81 : g_F RX10 81 0 0 := ⟨_, _, _, rfl, by decide, tin_wsX00, tw184⟩
theorem gf_X10_85 : g_F RX10 85 5 1 := ⟨_, _, _, rfl, by decide, tin_wsX80, tw185⟩
theorem gf_X10_88 : g_F RX10 88 0 1 := ⟨_, _, _, rfl, by decide, tin_wsX00, tw186⟩
theorem gw_X10_88 : g_Fw RX10 88 0 1 (tyX0 1) := ⟨_, _, _, tyX0, rfl, by decide, tin_wsX00, tw186, tyX0_ok, nmX0, rfl, tyX0_ok 1 (by decide)⟩
theorem gf_X10_97 : g_F RX10 97 0 3 := ⟨_, _, _, rfl, by decide, tin_wsX00, tw545⟩
theorem gw_X10_97 : g_Fw RX10 97 0 3 (tyX0 3) := ⟨_, _, _, tyX0, rfl, by decide, tin_wsX00, tw545, tyX0_ok, nmX0, rfl, tyX0_ok 3 (by decide)⟩
theorem gf_X10_100 : g_F RX10 100 3 0 := ⟨_, _, _, rfl, by decide, tin_wsX60, tw570⟩
theorem gf_X10_105 : g_F RX10 105 5 3 := ⟨_, _, _, rfl, by decide, tin_wsX80, tw579⟩
theorem gw_X10_105 : g_Fw RX10 105 5 3 (tyX8 3) := ⟨_, _, _, tyX8, rfl, by decide, tin_wsX80, tw579, tyX8_ok, nmX8, rfl, tyX8_ok 3 (by decide)⟩
theorem gf_X10_108 : g_F RX10 108 5 4 := ⟨_, _, _, rfl, by decide, tin_wsX80, tw580⟩
theorem gw_X10_108 : g_Fw RX10 108 5 4 (tyX8 4) := ⟨_, _, _, tyX8, rfl, by decide, tin_wsX80, tw580, tyX8_ok, nmX8, rfl, tyX8_ok 4 (by decide)⟩
theorem gf_X10_111 : g_F RX10 111 7 4 := ⟨_, _, _, rfl, by decide, tin_wsX100, tw589⟩
theorem gw_X10_111 : g_Fw RX10 111 7 4 (tyX10 4) := ⟨_, _, _, tyX10, rfl, by decide, tin_wsX100, tw589, tyX10_ok, nmX10, rfl, tyX10_ok 4 (by decide)⟩
theorem gf_X10_128 : g_F RX10 128 5 0 := ⟨_, _, _, rfl, by decide, tin_wsX80, tw845⟩
theorem gf_X10_135 : g_F RX10 135 5 2 := ⟨_, _, _, rfl, by decide, tin_wsX80, tw868⟩
theorem gf_X11_7 : g_F RX11 7 8 3 := ⟨_, _, _, rfl, by decide, tin_wsX110, tw103⟩
theorem gw_X11_7 : g_Fw RX11 7 8 3 (tyX11 3) := ⟨_, _, _, tyX11, rfl, by decide, tin_wsX110, tw103, tyX11_ok, nmX11, rfl, tyX11_ok 3 (by decide)⟩
theorem gf_X11_13 : g_F RX11 13 8 14 := ⟨_, _, _, rfl, by decide, tin_wsX110, tw104⟩
theorem gw_X11_13 : g_Fw RX11 13 8 14 (tyX11 14) := ⟨_, _, _, tyX11, rfl, by decide, tin_wsX110, tw104, tyX11_ok, nmX11, rfl, tyX11_ok 14 (by decide)⟩
theorem gf_X11_17 : g_F RX11 17 8 15 := ⟨_, _, _, rfl, by decide, tin_wsX110, tw105⟩
theorem gw_X11_17 : g_Fw RX11 17 8 15 (tyX11 15) := ⟨_, _, _, tyX11, rfl, by decide, tin_wsX110, tw105, tyX11_ok, nmX11, rfl, tyX11_ok 15 (by decide)⟩
theorem gf_X11_21 : g_F RX11 21 8 16 := ⟨_, _, _, rfl, by decide, tin_wsX110, tw106⟩
theorem gw_X11_21 : g_Fw RX11 21 8 16 (tyX11 16) := ⟨_, _, _, tyX11, rfl, by decide, tin_wsX110, tw106, tyX11_ok, nmX11, rfl, tyX11_ok 16 (by decide)⟩
theorem gf_X11_24 : g_F RX11 24 8 17 := ⟨_, _, _, rfl, by decide, tin_wsX110, tw107⟩
theorem gw_X11_24 : g_Fw RX11 24 8 17 (tyX11 17) := ⟨_, _, _, tyX11, rfl, by decide, tin_wsX110, tw107, tyX11_ok, nmX11, rfl, tyX11_ok 17 (by decide)⟩
theorem gf_X11_27 : g_F RX11 27 8 18 := ⟨_, _, _, rfl, by decide, tin_wsX110, tw108⟩
theorem gw_X11_27 : g_Fw RX11 27 8 18 (tyX11 18) := ⟨_, _, _, tyX11, rfl, by decide, tin_wsX110, tw108, tyX11_ok, nmX11, rfl, tyX11_ok 18 (by decide)⟩
theorem gf_X11_30 : g_F RX11 30 8 19 := ⟨_, _, _, rfl, by decide, tin_wsX110, tw109⟩
theorem gw_X11_30 : g_Fw RX11 30 8 19 (tyX11 19) := ⟨_, _, _, tyX11, rfl, by decide, tin_wsX110, tw109, tyX11_ok, nmX11, rfl, tyX11_ok 19 (by decide)⟩
theorem gf_X11_33 : g_F RX11 33 8 20 := ⟨_, _, _, rfl, by decide, tin_wsX110, tw110⟩
theorem gw_X11_33 : g_Fw RX11 33 8 20 (tyX11 20) := ⟨_, _, _, tyX11, rfl, by decide, tin_wsX110, tw110, tyX11_ok, nmX11, rfl, tyX11_ok 20 (by decide)⟩
theorem gf_X11_36 : g_F RX11 36 8 21 := ⟨_, _, _, rfl, by decide, tin_wsX110, tw111⟩
theorem gw_X11_36 : g_Fw RX11 36 8 21 (tyX11 21) := ⟨_, _, _, tyX11, rfl, by decide, tin_wsX110, tw111, tyX11_ok, nmX11, rfl, tyX11_ok 21 (by decide)⟩
theorem gf_X11_39 : g_F RX11 39 8 22 := ⟨_, _, _, rfl, by decide, tin_wsX110, tw112⟩
theorem gw_X11_39 : g_Fw RX11 39 8 22 (tyX11 22) := ⟨_, _, _, tyX11, rfl, by decide, tin_wsX110, tw112, tyX11_ok, nmX11, rfl, tyX11_ok 22 (by decide)⟩
theorem gf_X11_42 : g_F RX11 42 8 23 := ⟨_, _, _, rfl, by decide, tin_wsX110, tw113⟩
theorem gw_X11_42 : g_Fw RX11 42 8 23 (tyX11 23) := ⟨_, _, _, tyX11, rfl, by decide, tin_wsX110, tw113, tyX11_ok, nmX11, rfl, tyX11_ok 23 (by decide)⟩
theorem gf_X11_45 : g_F RX11 45 8 24 := ⟨_, _, _, rfl, by decide, tin_wsX110, tw114⟩
theorem gw_X11_45 : g_Fw RX11 45 8 24 (tyX11 24) := ⟨_, _, _, tyX11, rfl, by decide, tin_wsX110, tw114, tyX11_ok, nmX11, rfl, tyX11_ok 24 (by decide)⟩
theorem gf_X11_48 : g_F RX11 48 8 25 := ⟨_, _, _, rfl, by decide, tin_wsX110, tw115⟩
theorem gw_X11_48 : g_Fw RX11 48 8 25 (tyX11 25) := ⟨_, _, _, tyX11, rfl, by decide, tin_wsX110, tw115, tyX11_ok, nmX11, rfl, tyX11_ok 25 (by decide)⟩
theorem gf_X11_51 : g_F RX11 51 8 26 := ⟨_, _, _, rfl, by decide, tin_wsX110, tw116⟩
theorem gw_X11_51 : g_Fw RX11 51 8 26 (tyX11 26) := ⟨_, _, _, tyX11, rfl, by decide, tin_wsX110, tw116, tyX11_ok, nmX11, rfl, tyX11_ok 26 (by decide)⟩
theorem gf_X11_54 : g_F RX11 54 8 27 := ⟨_, _, _, rfl, by decide, tin_wsX110, tw117⟩
theorem gw_X11_54 : g_Fw RX11 54 8 27 (tyX11 27) := ⟨_, _, _, tyX11, rfl, by decide, tin_wsX110, tw117, tyX11_ok, nmX11, rfl, tyX11_ok 27 (by decide)⟩
theorem gf_X11_57 : g_F RX11 57 8 28 := ⟨_, _, _, rfl, by decide, tin_wsX110, tw118⟩
theorem gw_X11_57 : g_Fw RX11 57 8 28 (tyX11 28) := ⟨_, _, _, tyX11, rfl, by decide, tin_wsX110, tw118, tyX11_ok, nmX11, rfl, tyX11_ok 28 (by decide)⟩
theorem gf_X11_60 : g_F RX11 60 8 29 := ⟨_, _, _, rfl, by decide, tin_wsX110, tw119⟩
theorem gw_X11_60 : g_Fw RX11 60 8 29 (tyX11 29) := ⟨_, _, _, tyX11, rfl, by decide, tin_wsX110, tw119, tyX11_ok, nmX11, rfl, tyX11_ok 29 (by decide)⟩
theorem gf_X11_63 : g_F RX11 63 8 30 := ⟨_, _, _, rfl, by decide, tin_wsX110, tw120⟩
theorem gw_X11_63 : g_Fw RX11 63 8 30 (tyX11 30) := ⟨_, _, _, tyX11, rfl, by decide, tin_wsX110, tw120, tyX11_ok, nmX11, rfl, tyX11_ok 30 (by decide)⟩
theorem gf_X11_66 : g_F RX11 66 8 1 := ⟨_, _, _, rfl, by decide, tin_wsX110, tw121⟩
theorem gw_X11_66 : g_Fw RX11 66 8 1 (tyX11 1) := ⟨_, _, _, tyX11, rfl, by decide, tin_wsX110, tw121, tyX11_ok, nmX11, rfl, tyX11_ok 1 (by decide)⟩
theorem gf_X11_70 : g_F RX11 70 8 0 := ⟨_, _, _, rfl, by decide, tin_wsX110, tw154⟩
theorem gw_X11_70 : g_Fw RX11 70 8 0 (tyX11 0) := ⟨_, _, _, tyX11, rfl, by decide, tin_wsX110, tw154, tyX11_ok, nmX11, rfl, tyX11_ok 0 (by decide)⟩
theorem gf_X11_85 : g_F RX11 85 8 4 := ⟨_, _, _, rfl, by decide, tin_wsX110, tw153⟩
theorem gw_X11_85 : g_Fw RX11 85 8 4 (tyX11 4) := ⟨_, _, _, tyX11, rfl, by decide, tin_wsX110, tw153, tyX11_ok, nmX11, rfl, tyX11_ok 4 (by decide)⟩
theorem gf_X11_88 : g_F RX11 88 8 5 := ⟨_, _, _, rfl, by decide, tin_wsX110, tw404⟩
theorem gw_X11_88 : g_Fw RX11 88 8 5 (tyX11 5) := ⟨_, _, _, tyX11, rfl, by decide, tin_wsX110, tw404, tyX11_ok, nmX11, rfl, tyX11_ok 5 (by decide)⟩
theorem gf_X11_102 : g_F RX11 102 8 12 := ⟨_, _, _, rfl, by decide, tin_wsX110, tw419⟩
theorem gw_X11_102 : g_Fw RX11 102 8 12 (tyX11 12) := ⟨_, _, _, tyX11, rfl, by decide, tin_wsX110, tw419, tyX11_ok, nmX11, rfl, tyX11_ok 12 (by decide)⟩
theorem gf_X11_111 : g_F RX11 111 8 13 := ⟨_, _, _, rfl, by decide, tin_wsX110, tw420⟩
theorem gw_X11_111 : g_Fw RX11 111 8 13 (tyX11 13) := ⟨_, _, _, tyX11, rfl, by decide, tin_wsX110, tw420, tyX11_ok, nmX11, rfl, tyX11_ok 13 (by decide)⟩
theorem gf_X11_199 : g_F RX11 199 8 11 := ⟨_, _, _, rfl, by decide, tin_wsX110, tw408⟩
theorem gw_X11_199 : g_Fw RX11 199 8 11 (tyX11 11) := ⟨_, _, _, tyX11, rfl, by decide, tin_wsX110, tw408, tyX11_ok, nmX11, rfl, tyX11_ok 11 (by decide)⟩
theorem gf_X11_202 : g_F RX11 202 8 9 := ⟨_, _, _, rfl, by decide, tin_wsX110, tw406⟩
theorem gw_X11_202 : g_Fw RX11 202 8 9 (tyX11 9) := ⟨_, _, _, tyX11, rfl, by decide, tin_wsX110, tw406, tyX11_ok, nmX11, rfl, tyX11_ok 9 (by decide)⟩
theorem gf_X11_205 : g_F RX11 205 8 8 := ⟨_, _, _, rfl, by decide, tin_wsX110, tw405⟩
theorem gw_X11_205 : g_Fw RX11 205 8 8 (tyX11 8) := ⟨_, _, _, tyX11, rfl, by decide, tin_wsX110, tw405, tyX11_ok, nmX11, rfl, tyX11_ok 8 (by decide)⟩
theorem gf_X11_256 : g_F RX11 256 8 10 := ⟨_, _, _, rfl, by decide, tin_wsX110, tw407⟩
theorem gw_X11_256 : g_Fw RX11 256 8 10 (tyX11 10) := ⟨_, _, _, tyX11, rfl, by decide, tin_wsX110, tw407, tyX11_ok, nmX11, rfl, tyX11_ok 10 (by decide)⟩
theorem gf_X11_273 : g_F RX11 273 8 6 := ⟨_, _, _, rfl, by decide, tin_wsX110, tw409⟩
theorem gw_X11_273 : g_Fw RX11 273 8 6 (tyX11 6) := ⟨_, _, _, tyX11, rfl, by decide, tin_wsX110, tw409, tyX11_ok, nmX11, rfl, tyX11_ok 6 (by decide)⟩
theorem gf_X11_276 : g_F RX11 276 8 7 := ⟨_, _, _, rfl, by decide, tin_wsX110, tw410⟩
theorem gw_X11_276 : g_Fw RX11 276 8 7 (tyX11 7) := ⟨_, _, _, tyX11, rfl, by decide, tin_wsX110, tw410, tyX11_ok, nmX11, rfl, tyX11_ok 7 (by decide)⟩
theorem gf_X11_291 : g_F RX11 291 8 2 := ⟨_, _, _, rfl, by decide, tin_wsX110, tw600⟩
theorem gw_X11_291 : g_Fw RX11 291 8 2 (tyX11 2) := ⟨_, _, _, tyX11, rfl, by decide, tin_wsX110, tw600, tyX11_ok, nmX11, rfl, tyX11_ok 2 (by decide)⟩
theorem gf_X2_9 : g_F RX2 9 1 1 := ⟨_, _, _, rfl, by decide, tin_wsX20, tw64⟩
theorem gf_X2_15 : g_F RX2 15 1 2 := ⟨_, _, _, rfl, by decide, tin_wsX20, tw65⟩
theorem gf_X2_18 : g_F RX2 18 1 3 := ⟨_, _, _, rfl, by decide, tin_wsX20, tw66⟩
theorem gf_X2_21 : g_F RX2 21 1 0 := ⟨_, _, _, rfl, by decide, tin_wsX20, tw757⟩
theorem gw_X2_21 : g_Fw RX2 21 1 0 (tyX2 0) := ⟨_, _, _, tyX2, rfl, by decide, tin_wsX20, tw757, tyX2_ok, nmX2, rfl, tyX2_ok 0 (by decide)⟩
theorem gf_X3_9 : g_F RX3 9 2 1 := ⟨_, _, _, rfl, by decide, tin_wsX30, tw90⟩
theorem gf_X3_15 : g_F RX3 15 2 2 := ⟨_, _, _, rfl, by decide, tin_wsX30, tw91⟩
theorem gf_X3_19 : g_F RX3 19 2 0 := ⟨_, _, _, rfl, by decide, tin_wsX30, tw380⟩
theorem gw_X3_19 : g_Fw RX3 19 2 0 (tyX3 0) := ⟨_, _, _, tyX3, rfl, by decide, tin_wsX30, tw380, tyX3_ok, nmX3, rfl, tyX3_ok 0 (by decide)⟩
theorem gf_X6_9 : g_F RX6 9 3 0 := ⟨_, _, _, rfl, by decide, tin_wsX60, tw46⟩
theorem gf_X6_15 : g_F RX6 15 3 1 := ⟨_, _, _, rfl, by decide, tin_wsX60, tw47⟩
theorem gf_X7_9 : g_F RX7 9 4 0 := ⟨_, _, _, rfl, by decide, tin_wsX70, tw71⟩
theorem gf_X7_19 : g_F RX7 19 4 1 := ⟨_, _, _, rfl, by decide, tin_wsX70, tw147⟩
theorem gw_X7_19 : g_Fw RX7 19 4 1 (tyX7 1) := ⟨_, _, _, tyX7, rfl, by decide, tin_wsX70, tw147, tyX7_ok, nmX7, rfl, tyX7_ok 1 (by decide)⟩
theorem gf_X8_9 : g_F RX8 9 5 0 := ⟨_, _, _, rfl, by decide, tin_wsX80, tw52⟩
theorem gf_X8_15 : g_F RX8 15 5 1 := ⟨_, _, _, rfl, by decide, tin_wsX80, tw53⟩
theorem gf_X8_21 : g_F RX8 21 5 2 := ⟨_, _, _, rfl, by decide, tin_wsX80, tw57⟩
theorem gf_X8_25 : g_F RX8 25 5 6 := ⟨_, _, _, rfl, by decide, tin_wsX80, tw58⟩
theorem gf_X8_28 : g_F RX8 28 5 7 := ⟨_, _, _, rfl, by decide, tin_wsX80, tw59⟩
theorem gw_X8_28 : g_Fw RX8 28 5 7 (tyX8 7) := ⟨_, _, _, tyX8, rfl, by decide, tin_wsX80, tw59, tyX8_ok, nmX8, rfl, tyX8_ok 7 (by decide)⟩
theorem gf_X8_32 : g_F RX8 32 5 5 := ⟨_, _, _, rfl, by decide, tin_wsX80, tw60⟩
theorem gf_X8_35 : g_F RX8 35 5 8 := ⟨_, _, _, rfl, by decide, tin_wsX80, tw594⟩
theorem gw_X8_35 : g_Fw RX8 35 5 8 (tyX8 8) := ⟨_, _, _, tyX8, rfl, by decide, tin_wsX80, tw594, tyX8_ok, nmX8, rfl, tyX8_ok 8 (by decide)⟩
theorem gf_X8_38 : g_F RX8 38 5 9 := ⟨_, _, _, rfl, by decide, tin_wsX80, tw595⟩
theorem gw_X8_38 : g_Fw RX8 38 5 9 (tyX8 9) := ⟨_, _, _, tyX8, rfl, by decide, tin_wsX80, tw595, tyX8_ok, nmX8, rfl, tyX8_ok 9 (by decide)⟩
theorem gf_X8_41 : g_F RX8 41 1 0 := ⟨_, _, _, rfl, by decide, tin_wsX20, tw859⟩
theorem gw_X8_41 : g_Fw RX8 41 1 0 (tyX2 0) := ⟨_, _, _, tyX2, rfl, by decide, tin_wsX20, tw859, tyX2_ok, nmX2, rfl, tyX2_ok 0 (by decide)⟩
theorem gf_X8_57 : g_F RX8 57 5 11 := ⟨_, _, _, rfl, by decide, tin_wsX80, tw615⟩
theorem gw_X8_57 : g_Fw RX8 57 5 11 (tyX8 11) := ⟨_, _, _, tyX8, rfl, by decide, tin_wsX80, tw615, tyX8_ok, nmX8, rfl, tyX8_ok 11 (by decide)⟩
theorem gf_X8_64 : g_F RX8 64 5 10 := ⟨_, _, _, rfl, by decide, tin_wsX80, tw616⟩
theorem gw_X8_64 : g_Fw RX8 64 5 10 (tyX8 10) := ⟨_, _, _, tyX8, rfl, by decide, tin_wsX80, tw616, tyX8_ok, nmX8, rfl, tyX8_ok 10 (by decide)⟩
theorem gf_X8_174 : g_F RX8 174 5 3 := ⟨_, _, _, rfl, by decide, tin_wsX80, tw689⟩
theorem gw_X8_174 : g_Fw RX8 174 5 3 (tyX8 3) := ⟨_, _, _, tyX8, rfl, by decide, tin_wsX80, tw689, tyX8_ok, nmX8, rfl, tyX8_ok 3 (by decide)⟩
theorem gf_X8_177 : g_F RX8 177 5 4 := ⟨_, _, _, rfl, by decide, tin_wsX80, tw690⟩
theorem gw_X8_177 : g_Fw RX8 177 5 4 (tyX8 4) := ⟨_, _, _, tyX8, rfl, by decide, tin_wsX80, tw690, tyX8_ok, nmX8, rfl, tyX8_ok 4 (by decide)⟩
theorem gf_X8_180 : g_F RX8 180 3 0 := ⟨_, _, _, rfl, by decide, tin_wsX60, tw695⟩
theorem gf_X9_9 : g_F RX9 9 6 0 := ⟨_, _, _, rfl, by decide, tin_wsX90, tw96⟩
theorem gf_X9_15 : g_F RX9 15 6 1 := ⟨_, _, _, rfl, by decide, tin_wsX90, tw97⟩
theorem gf_X9_19 : g_F RX9 19 6 2 := ⟨_, _, _, rfl, by decide, tin_wsX90, tw98⟩
theorem gf_X9_23 : g_F RX9 23 6 3 := ⟨_, _, _, rfl, by decide, tin_wsX90, tw210⟩
theorem gw_X9_23 : g_Fw RX9 23 6 3 (tyX9 3) := ⟨_, _, _, tyX9, rfl, by decide, tin_wsX90, tw210, tyX9_ok, nmX9, rfl, tyX9_ok 3 (by decide)⟩
theorem gf_X9_27 : g_F RX9 27 6 4 := ⟨_, _, _, rfl, by decide, tin_wsX90, tw211⟩
theorem gw_X9_27 : g_Fw RX9 27 6 4 (tyX9 4) := ⟨_, _, _, tyX9, rfl, by decide, tin_wsX90, tw211, tyX9_ok, nmX9, rfl, tyX9_ok 4 (by decide)⟩
theorem gf_X9_30 : g_F RX9 30 4 1 := ⟨_, _, _, rfl, by decide, tin_wsX70, tw212⟩
theorem gw_X9_30 : g_Fw RX9 30 4 1 (tyX7 1) := ⟨_, _, _, tyX7, rfl, by decide, tin_wsX70, tw212, tyX7_ok, nmX7, rfl, tyX7_ok 1 (by decide)⟩
theorem gf_X9_35 : g_F RX9 35 4 0 := ⟨_, _, _, rfl, by decide, tin_wsX70, tw213⟩
