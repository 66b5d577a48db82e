set_option maxRecDepth 100000 in
theorem kX4_init_15 : az_seek (15 : Int).toNat (az_cd 2) = zX4_init_15 := rfl
set_option maxRecDepth 100000 in
theorem kX4_init_40 : az_seek (40 : Int).toNat (az_cd 2) = zX4_init_40 := rfl
set_option maxRecDepth 100000 in
theorem kX7_init_100 : az_seek (100 : Int).toNat (az_cd 7) = zX7_init_100 := rfl
set_option maxRecDepth 100000 in
theorem kX7_init_125 : az_seek (125 : Int).toNat (az_cd 7) = zX7_init_125 := rfl
set_option maxRecDepth 100000 in
theorem kX7_init_127 : az_seek (127 : Int).toNat (az_cd 7) = zX7_init_127 := rfl
set_option maxRecDepth 100000 in
theorem kX7_init_151 : az_seek (151 : Int).toNat (az_cd 7) = zX7_init_151 := rfl
set_option maxRecDepth 100000 in
theorem kX8_init_110 : az_seek (110 : Int).toNat (az_cd 8) = zX8_init_110 := rfl
set_option maxRecDepth 100000 in
theorem kX8_init_129 : az_seek (129 : Int).toNat (az_cd 8) = zX8_init_129 := rfl
set_option maxRecDepth 100000 in
theorem kX7_isOneOf_13 : az_seek (13 : Int).toNat (az_cd 9) = zX7_isOneOf_13 := rfl
set_option maxRecDepth 100000 in
theorem kX7_isOneOf_14 : az_seek (14 : Int).toNat (az_cd 9) = zX7_isOneOf_14 := rfl
set_option maxRecDepth 100000 in
theorem kX5_make_12 : az_seek (12 : Int).toNat (az_cd 12) = zX5_make_12 := rfl
set_option maxRecDepth 100000 in
theorem kX5_make_30 : az_seek (30 : Int).toNat (az_cd 12) = zX5_make_30 := rfl
set_option maxRecDepth 100000 in
theorem kX7_row_22 : az_seek (22 : Int).toNat (az_cd 14) = zX7_row_22 := rfl
set_option maxRecDepth 100000 in
theorem kX7_row_25 : az_seek (25 : Int).toNat (az_cd 14) = zX7_row_25 := rfl
set_option maxRecDepth 100000 in
theorem kX7_row_35 : az_seek (35 : Int).toNat (az_cd 14) = zX7_row_35 := rfl
set_option maxRecDepth 100000 in
theorem kX8_in_17 : az_seek (17 : Int).toNat (az_cd 15) = zX8_in_17 := rfl
set_option maxRecDepth 100000 in
theorem kX8_in_18 : az_seek (18 : Int).toNat (az_cd 15) = zX8_in_18 := rfl
set_option maxRecDepth 100000 in
theorem kX8_row_25 : az_seek (25 : Int).toNat (az_cd 19) = zX8_row_25 := rfl
set_option maxRecDepth 100000 in
theorem kX8_row_28 : az_seek (28 : Int).toNat (az_cd 19) = zX8_row_28 := rfl
set_option maxRecDepth 100000 in
theorem kX8_row_38 : az_seek (38 : Int).toNat (az_cd 19) = zX8_row_38 := rfl
set_option maxRecDepth 100000 in
theorem kX8_row_55 : az_seek (55 : Int).toNat (az_cd 19) = zX8_row_55 := rfl
set_option maxRecDepth 100000 in
theorem kX8_row_81 : az_seek (81 : Int).toNat (az_cd 19) = zX8_row_81 := rfl
set_option maxRecDepth 100000 in
theorem kX5_isMissing_12 : az_seek (12 : Int).toNat (az_cd 20) = zX5_isMissing_12 := rfl
set_option maxRecDepth 100000 in
theorem kX5_isMissing_13 : az_seek (13 : Int).toNat (az_cd 20) = zX5_isMissing_13 := rfl
set_option maxRecDepth 100000 in
theorem kX5_hasPlaces_30 : az_seek (30 : Int).toNat (az_cd 21) = zX5_hasPlaces_30 := rfl
set_option maxRecDepth 100000 in
theorem kX5_hasPlaces_31 : az_seek (31 : Int).toNat (az_cd 21) = zX5_hasPlaces_31 := rfl
set_option maxRecDepth 100000 in
theorem kX5_put_18 : az_seek (18 : Int).toNat (az_cd 22) = zX5_put_18 := rfl
set_option maxRecDepth 100000 in
theorem kX5_put_37 : az_seek (37 : Int).toNat (az_cd 22) = zX5_put_37 := rfl
set_option maxRecDepth 100000 in
theorem kX5_put_44 : az_seek (44 : Int).toNat (az_cd 22) = zX5_put_44 := rfl
set_option maxRecDepth 100000 in
theorem kX7_set_10 : az_seek (10 : Int).toNat (az_cd 23) = zX7_set_10 := rfl
set_option maxRecDepth 100000 in
theorem kX7_set_32 : az_seek (32 : Int).toNat (az_cd 23) = zX7_set_32 := rfl
set_option maxRecDepth 100000 in
theorem kX7_set_48 : az_seek (48 : Int).toNat (az_cd 23) = zX7_set_48 := rfl
set_option maxRecDepth 100000 in
theorem kX8_set_10 : az_seek (10 : Int).toNat (az_cd 24) = zX8_set_10 := rfl
set_option maxRecDepth 100000 in
theorem kX8_set_25 : az_seek (25 : Int).toNat (az_cd 24) = zX8_set_25 := rfl
set_option maxRecDepth 100000 in
theorem kX8_set_49 : az_seek (49 : Int).toNat (az_cd 24) = zX8_set_49 := rfl
set_option maxRecDepth 100000 in
theorem kX8_set_73 : az_seek (73 : Int).toNat (az_cd 24) = zX8_set_73 := rfl
set_option maxRecDepth 100000 in
theorem kX8_set_88 : az_seek (88 : Int).toNat (az_cd 24) = zX8_set_88 := rfl
set_option maxRecDepth 100000 in
theorem kX8_set_89 : az_seek (89 : Int).toNat (az_cd 24) = zX8_set_89 := rfl
set_option maxRecDepth 100000 in
theorem kX7_copy_14 : az_seek (14 : Int).toNat (az_cd 25) = zX7_copy_14 := rfl
set_option maxRecDepth 100000 in
theorem kX7_copy_17 : az_seek (17 : Int).toNat (az_cd 25) = zX7_copy_17 := rfl
set_option maxRecDepth 100000 in
theorem kX7_copy_49 : az_seek (49 : Int).toNat (az_cd 25) = zX7_copy_49 := rfl
set_option maxRecDepth 100000 in
theorem kX7_copy_55 : az_seek (55 : Int).toNat (az_cd 25) = zX7_copy_55 := rfl
set_option maxRecDepth 100000 in
theorem kX7_copy_74 : az_seek (74 : Int).toNat (az_cd 25) = zX7_copy_74 := rfl
set_option maxRecDepth 100000 in
theorem kX7_copy_97 : az_seek (97 : Int).toNat (az_cd 25) = zX7_copy_97 := rfl
set_option maxRecDepth 100000 in
theorem kX7_copy_103 : az_seek (103 : Int).toNat (az_cd 25) = zX7_copy_103 := rfl
set_option maxRecDepth 100000 in
theorem kX8_copy_14 : az_seek (14 : Int).toNat (az_cd 26) = zX8_copy_14 := rfl
set_option maxRecDepth 100000 in
theorem kX8_copy_17 : az_seek (17 : Int).toNat (az_cd 26) = zX8_copy_17 := rfl
set_option maxRecDepth 100000 in
theorem kX8_copy_35 : az_seek (35 : Int).toNat (az_cd 26) = zX8_copy_35 := rfl
set_option maxRecDepth 100000 in
theorem kX8_copy_41 : az_seek (41 : Int).toNat (az_cd 26) = zX8_copy_41 := rfl
set_option maxRecDepth 100000 in
theorem kX8_copy_62 : az_seek (62 : Int).toNat (az_cd 26) = zX8_copy_62 := rfl
set_option maxRecDepth 100000 in
theorem kX8_copy_111 : az_seek (111 : Int).toNat (az_cd 26) = zX8_copy_111 := rfl
set_option maxRecDepth 100000 in
theorem kX8_copy_117 : az_seek (117 : Int).toNat (az_cd 26) = zX8_copy_117 := rfl
set_option maxRecDepth 100000 in
theorem kX8_copy_120 : az_seek (120 : Int).toNat (az_cd 26) = zX8_copy_120 := rfl
set_option maxRecDepth 100000 in
theorem kX8_copy_143 : az_seek (143 : Int).toNat (az_cd 26) = zX8_copy_143 := rfl
set_option maxRecDepth 100000 in
theorem kX8_copy_145 : az_seek (145 : Int).toNat (az_cd 26) = zX8_copy_145 := rfl
set_option maxRecDepth 100000 in
theorem kX8_copy_182 : az_seek (182 : Int).toNat (az_cd 26) = zX8_copy_182 := rfl
set_option maxRecDepth 100000 in
theorem kX7_drop_10 : az_seek (10 : Int).toNat (az_cd 28) = zX7_drop_10 := rfl
set_option maxRecDepth 100000 in
theorem kX7_drop_28 : az_seek (28 : Int).toNat (az_cd 28) = zX7_drop_28 := rfl
set_option maxRecDepth 100000 in
theorem kX8_drop_10 : az_seek (10 : Int).toNat (az_cd 29) = zX8_drop_10 := rfl
set_option maxRecDepth 100000 in
theorem kX8_drop_25 : az_seek (25 : Int).toNat (az_cd 29) = zX8_drop_25 := rfl
set_option maxRecDepth 100000 in
theorem kX6_hasRoomFor_16 : az_seek (16 : Int).toNat (az_cd 30) = zX6_hasRoomFor_16 := rfl
set_option maxRecDepth 100000 in
theorem kX6_hasRoomFor_17 : az_seek (17 : Int).toNat (az_cd 30) = zX6_hasRoomFor_17 := rfl
set_option maxRecDepth 100000 in
theorem kX6_append_5 : az_seek (5 : Int).toNat (az_cd 31) = zX6_append_5 := rfl
set_option maxRecDepth 100000 in
theorem kX6_append_44 : az_seek (44 : Int).toNat (az_cd 31) = zX6_append_44 := rfl
set_option maxRecDepth 100000 in
theorem kX7_feed_11 : az_seek (11 : Int).toNat (az_cd 32) = zX7_feed_11 := rfl
set_option maxRecDepth 100000 in
theorem kX7_feed_14 : az_seek (14 : Int).toNat (az_cd 32) = zX7_feed_14 := rfl
set_option maxRecDepth 100000 in
theorem kX7_feed_28 : az_seek (28 : Int).toNat (az_cd 32) = zX7_feed_28 := rfl
set_option maxRecDepth 100000 in
theorem kX8_feed_15 : az_seek (15 : Int).toNat (az_cd 33) = zX8_feed_15 := rfl
set_option maxRecDepth 100000 in
theorem kX8_feed_30 : az_seek (30 : Int).toNat (az_cd 33) = zX8_feed_30 := rfl
set_option maxRecDepth 100000 in
theorem kX8_feed_35 : az_seek (35 : Int).toNat (az_cd 33) = zX8_feed_35 := rfl
set_option maxRecDepth 100000 in
theorem kX8_feed_77 : az_seek (77 : Int).toNat (az_cd 33) = zX8_feed_77 := rfl
set_option maxRecDepth 100000 in
theorem kX6_isBetween_24 : az_seek (24 : Int).toNat (az_cd 34) = zX6_isBetween_24 := rfl
set_option maxRecDepth 100000 in
theorem kX6_isBetween_25 : az_seek (25 : Int).toNat (az_cd 34) = zX6_isBetween_25 := rfl
set_option maxRecDepth 100000 in
theorem kX6_pass_37 : az_seek (37 : Int).toNat (az_cd 35) = zX6_pass_37 := rfl
set_option maxRecDepth 100000 in
theorem kX6_advance_8 : az_seek (8 : Int).toNat (az_cd 36) = zX6_advance_8 := rfl
set_option maxRecDepth 100000 in
theorem kX6_advance_47 : az_seek (47 : Int).toNat (az_cd 36) = zX6_advance_47 := rfl
set_option maxRecDepth 100000 in
theorem kX6_advance_60 : az_seek (60 : Int).toNat (az_cd 36) = zX6_advance_60 := rfl
set_option maxRecDepth 100000 in
theorem kX6_advance_87 : az_seek (87 : Int).toNat (az_cd 36) = zX6_advance_87 := rfl
set_option maxRecDepth 100000 in
theorem kX6_advance_118 : az_seek (118 : Int).toNat (az_cd 36) = zX6_advance_118 := rfl
set_option maxRecDepth 100000 in
theorem kX6_advance_159 : az_seek (159 : Int).toNat (az_cd 36) = zX6_advance_159 := rfl
set_option maxRecDepth 100000 in
theorem kX6_advance_160 : az_seek (160 : Int).toNat (az_cd 36) = zX6_advance_160 := rfl
set_option maxRecDepth 100000 in
theorem kX6_advance_166 : az_seek (166 : Int).toNat (az_cd 36) = zX6_advance_166 := rfl
set_option maxRecDepth 100000 in
theorem kX6_advance_185 : az_seek (185 : Int).toNat (az_cd 36) = zX6_advance_185 := rfl
set_option maxRecDepth 100000 in
theorem kX6_advance_186 : az_seek (186 : Int).toNat (az_cd 36) = zX6_advance_186 := rfl
set_option maxRecDepth 100000 in
theorem kX6_advance_199 : az_seek (199 : Int).toNat (az_cd 36) = zX6_advance_199 := rfl
set_option maxRecDepth 100000 in
theorem kJ0_coder_7d493_13 : az_seek (13 : Int).toNat (az_cd 38) = zJ0_coder_7d493_13 := rfl
set_option maxRecDepth 100000 in
theorem kJ0_coder_7d493_14 : az_seek (14 : Int).toNat (az_cd 38) = zJ0_coder_7d493_14 := rfl
set_option maxRecDepth 100000 in
theorem kJ0_isLatin1_aae02_17 : az_seek (17 : Int).toNat (az_cd 40) = zJ0_isLatin1_aae02_17 := rfl
set_option maxRecDepth 100000 in
theorem kJ0_isLatin1_aae02_18 : az_seek (18 : Int).toNat (az_cd 40) = zJ0_isLatin1_aae02_18 := rfl
set_option maxRecDepth 100000 in
theorem kJ3_checkIndex_8e157_9 : az_seek (9 : Int).toNat (az_cd 41) = zJ3_checkIndex_8e157_9 := rfl
set_option maxRecDepth 100000 in
theorem kJ3_checkIndex_8e157_16 : az_seek (16 : Int).toNat (az_cd 41) = zJ3_checkIndex_8e157_16 := rfl
set_option maxRecDepth 100000 in
theorem kJ2_getChar_3b067_18 : az_seek (18 : Int).toNat (az_cd 46) = zJ2_getChar_3b067_18 := rfl
set_option maxRecDepth 100000 in
theorem kJ2_getChar_3b067_28 : az_seek (28 : Int).toNat (az_cd 46) = zJ2_getChar_3b067_28 := rfl
set_option maxRecDepth 100000 in
theorem kJ0_charAt_5068e_16 : az_seek (16 : Int).toNat (az_cd 48) = zJ0_charAt_5068e_16 := rfl
set_option maxRecDepth 100000 in
theorem kX6_isWord_24 : az_seek (24 : Int).toNat (az_cd 49) = zX6_isWord_24 := rfl
set_option maxRecDepth 100000 in
theorem kX6_isWord_26 : az_seek (26 : Int).toNat (az_cd 49) = zX6_isWord_26 := rfl
set_option maxRecDepth 100000 in
theorem kX6_isWord_28 : az_seek (28 : Int).toNat (az_cd 49) = zX6_isWord_28 := rfl
set_option maxRecDepth 100000 in
theorem kX6_isWord_57 : az_seek (57 : Int).toNat (az_cd 49) = zX6_isWord_57 := rfl
set_option maxRecDepth 100000 in
theorem kX6_isWord_63 : az_seek (63 : Int).toNat (az_cd 49) = zX6_isWord_63 := rfl
set_option maxRecDepth 100000 in
theorem kX6_takeWord_14 : az_seek (14 : Int).toNat (az_cd 51) = zX6_takeWord_14 := rfl
set_option maxRecDepth 100000 in
theorem kX6_figuresRead_7 : az_seek (7 : Int).toNat (az_cd 52) = zX6_figuresRead_7 := rfl
set_option maxRecDepth 100000 in
theorem kX6_figuresRead_36 : az_seek (36 : Int).toNat (az_cd 52) = zX6_figuresRead_36 := rfl
set_option maxRecDepth 100000 in
theorem kX6_takeNumber_14 : az_seek (14 : Int).toNat (az_cd 53) = zX6_takeNumber_14 := rfl
set_option maxRecDepth 100000 in
theorem kX6_takeNumber_29 : az_seek (29 : Int).toNat (az_cd 53) = zX6_takeNumber_29 := rfl
set_option maxRecDepth 100000 in
theorem kX6_takeNumber_35 : az_seek (35 : Int).toNat (az_cd 53) = zX6_takeNumber_35 := rfl
set_option maxRecDepth 100000 in
theorem kX6_takeSign_14 : az_seek (14 : Int).toNat (az_cd 54) = zX6_takeSign_14 := rfl
set_option maxRecDepth 100000 in
theorem kX6_readLaw_18 : az_seek (18 : Int).toNat (az_cd 55) = zX6_readLaw_18 := rfl
set_option maxRecDepth 100000 in
theorem kX6_readLaw_20 : az_seek (20 : Int).toNat (az_cd 55) = zX6_readLaw_20 := rfl
set_option maxRecDepth 100000 in
theorem kX6_readLaw_40 : az_seek (40 : Int).toNat (az_cd 55) = zX6_readLaw_40 := rfl
set_option maxRecDepth 100000 in
theorem kX6_readSun_11 : az_seek (11 : Int).toNat (az_cd 56) = zX6_readSun_11 := rfl
set_option maxRecDepth 100000 in
theorem kX6_readSun_13 : az_seek (13 : Int).toNat (az_cd 56) = zX6_readSun_13 := rfl
set_option maxRecDepth 100000 in
theorem kX6_readSun_31 : az_seek (31 : Int).toNat (az_cd 56) = zX6_readSun_31 := rfl
set_option maxRecDepth 100000 in
theorem kX6_readSun_47 : az_seek (47 : Int).toNat (az_cd 56) = zX6_readSun_47 := rfl
set_option maxRecDepth 100000 in
theorem kX6_sortOf_32 : az_seek (32 : Int).toNat (az_cd 57) = zX6_sortOf_32 := rfl
set_option maxRecDepth 100000 in
theorem kX6_sortOf_35 : az_seek (35 : Int).toNat (az_cd 57) = zX6_sortOf_35 := rfl
set_option maxRecDepth 100000 in
theorem kX6_sortOf_38 : az_seek (38 : Int).toNat (az_cd 57) = zX6_sortOf_38 := rfl
set_option maxRecDepth 100000 in
theorem kX6_sortOf_41 : az_seek (41 : Int).toNat (az_cd 57) = zX6_sortOf_41 := rfl
set_option maxRecDepth 100000 in
theorem kX6_sortOf_44 : az_seek (44 : Int).toNat (az_cd 57) = zX6_sortOf_44 := rfl
set_option maxRecDepth 100000 in
theorem kX6_takeSort_2 : az_seek (2 : Int).toNat (az_cd 58) = zX6_takeSort_2 := rfl
set_option maxRecDepth 100000 in
theorem kX6_takeSort_29 : az_seek (29 : Int).toNat (az_cd 58) = zX6_takeSort_29 := rfl
set_option maxRecDepth 100000 in
theorem kX6_takeSort_35 : az_seek (35 : Int).toNat (az_cd 58) = zX6_takeSort_35 := rfl
set_option maxRecDepth 100000 in
theorem kX6_readGuest_16 : az_seek (16 : Int).toNat (az_cd 59) = zX6_readGuest_16 := rfl
set_option maxRecDepth 100000 in
theorem kX6_readGuest_18 : az_seek (18 : Int).toNat (az_cd 59) = zX6_readGuest_18 := rfl
set_option maxRecDepth 100000 in
theorem kX6_readGuest_40 : az_seek (40 : Int).toNat (az_cd 59) = zX6_readGuest_40 := rfl
set_option maxRecDepth 100000 in
theorem kX6_readGuest_63 : az_seek (63 : Int).toNat (az_cd 59) = zX6_readGuest_63 := rfl
set_option maxRecDepth 100000 in
theorem kX6_readGuest_85 : az_seek (85 : Int).toNat (az_cd 59) = zX6_readGuest_85 := rfl
set_option maxRecDepth 100000 in
theorem kX6_readGuests_2 : az_seek (2 : Int).toNat (az_cd 60) = zX6_readGuests_2 := rfl
set_option maxRecDepth 100000 in
theorem kX6_readGuests_26 : az_seek (26 : Int).toNat (az_cd 60) = zX6_readGuests_26 := rfl
set_option maxRecDepth 100000 in
theorem kX6_readGuests_39 : az_seek (39 : Int).toNat (az_cd 60) = zX6_readGuests_39 := rfl
set_option maxRecDepth 100000 in
theorem kX6_readGuests_49 : az_seek (49 : Int).toNat (az_cd 60) = zX6_readGuests_49 := rfl
set_option maxRecDepth 100000 in
theorem kX6_readGuests_63 : az_seek (63 : Int).toNat (az_cd 60) = zX6_readGuests_63 := rfl
set_option maxRecDepth 100000 in
theorem kX6_readGuests_64 : az_seek (64 : Int).toNat (az_cd 60) = zX6_readGuests_64 := rfl
set_option maxRecDepth 100000 in
theorem kX6_readBeach_41 : az_seek (41 : Int).toNat (az_cd 62) = zX6_readBeach_41 := rfl
set_option maxRecDepth 100000 in
theorem kX6_readBeach_42 : az_seek (42 : Int).toNat (az_cd 62) = zX6_readBeach_42 := rfl
set_option maxRecDepth 100000 in
theorem kX7_beach_25 : az_seek (25 : Int).toNat (az_cd 65) = zX7_beach_25 := rfl
set_option maxRecDepth 100000 in
theorem kX8_sort_18 : az_seek (18 : Int).toNat (az_cd 66) = zX8_sort_18 := rfl
set_option maxRecDepth 100000 in
theorem kX8_sort_36 : az_seek (36 : Int).toNat (az_cd 66) = zX8_sort_36 := rfl
set_option maxRecDepth 100000 in
theorem kX8_sort_46 : az_seek (46 : Int).toNat (az_cd 66) = zX8_sort_46 := rfl
set_option maxRecDepth 100000 in
theorem kX8_sort_47 : az_seek (47 : Int).toNat (az_cd 66) = zX8_sort_47 := rfl
set_option maxRecDepth 100000 in
theorem kX8_next_39 : az_seek (39 : Int).toNat (az_cd 67) = zX8_next_39 := rfl
set_option maxRecDepth 100000 in
theorem kX8_next_52 : az_seek (52 : Int).toNat (az_cd 67) = zX8_next_52 := rfl
set_option maxRecDepth 100000 in
theorem kX8_next_87 : az_seek (87 : Int).toNat (az_cd 67) = zX8_next_87 := rfl
set_option maxRecDepth 100000 in
theorem kX8_next_88 : az_seek (88 : Int).toNat (az_cd 67) = zX8_next_88 := rfl
set_option maxRecDepth 100000 in
theorem kX8_next_113 : az_seek (113 : Int).toNat (az_cd 67) = zX8_next_113 := rfl
set_option maxRecDepth 100000 in
theorem kX8_next_114 : az_seek (114 : Int).toNat (az_cd 67) = zX8_next_114 := rfl
set_option maxRecDepth 100000 in
theorem kX8_next_118 : az_seek (118 : Int).toNat (az_cd 67) = zX8_next_118 := rfl
set_option maxRecDepth 100000 in
theorem kX8_next_194 : az_seek (194 : Int).toNat (az_cd 67) = zX8_next_194 := rfl
set_option maxRecDepth 100000 in
theorem kX8_next_220 : az_seek (220 : Int).toNat (az_cd 67) = zX8_next_220 := rfl
set_option maxRecDepth 100000 in
theorem kX8_next_235 : az_seek (235 : Int).toNat (az_cd 67) = zX8_next_235 := rfl
set_option maxRecDepth 100000 in
theorem kX8_next_251 : az_seek (251 : Int).toNat (az_cd 67) = zX8_next_251 := rfl
set_option maxRecDepth 100000 in
theorem kX8_next_277 : az_seek (277 : Int).toNat (az_cd 67) = zX8_next_277 := rfl
set_option maxRecDepth 100000 in
theorem kX8_next_281 : az_seek (281 : Int).toNat (az_cd 67) = zX8_next_281 := rfl
set_option maxRecDepth 100000 in
theorem kX8_mustBe_12 : az_seek (12 : Int).toNat (az_cd 68) = zX8_mustBe_12 := rfl
set_option maxRecDepth 100000 in
theorem kX8_mustBe_13 : az_seek (13 : Int).toNat (az_cd 68) = zX8_mustBe_13 := rfl
set_option maxRecDepth 100000 in
theorem kX8_isWord_26 : az_seek (26 : Int).toNat (az_cd 69) = zX8_isWord_26 := rfl
set_option maxRecDepth 100000 in
theorem kX8_isWord_27 : az_seek (27 : Int).toNat (az_cd 69) = zX8_isWord_27 := rfl
set_option maxRecDepth 100000 in
theorem kX8_number_19 : az_seek (19 : Int).toNat (az_cd 70) = zX8_number_19 := rfl
set_option maxRecDepth 100000 in
theorem kX8_number_40 : az_seek (40 : Int).toNat (az_cd 70) = zX8_number_40 := rfl
set_option maxRecDepth 100000 in
theorem kX8_ends_17 : az_seek (17 : Int).toNat (az_cd 71) = zX8_ends_17 := rfl
set_option maxRecDepth 100000 in
theorem kX8_ends_18 : az_seek (18 : Int).toNat (az_cd 71) = zX8_ends_18 := rfl
set_option maxRecDepth 100000 in
theorem kX8_kindHere_16 : az_seek (16 : Int).toNat (az_cd 72) = zX8_kindHere_16 := rfl
set_option maxRecDepth 100000 in
theorem kX8_kindHere_31 : az_seek (31 : Int).toNat (az_cd 72) = zX8_kindHere_31 := rfl
set_option maxRecDepth 100000 in
theorem kX8_kindHere_46 : az_seek (46 : Int).toNat (az_cd 72) = zX8_kindHere_46 := rfl
set_option maxRecDepth 100000 in
theorem kX8_kindHere_61 : az_seek (61 : Int).toNat (az_cd 72) = zX8_kindHere_61 := rfl
set_option maxRecDepth 100000 in
theorem kX8_kindHere_76 : az_seek (76 : Int).toNat (az_cd 72) = zX8_kindHere_76 := rfl
set_option maxRecDepth 100000 in
theorem kX8_kindHere_91 : az_seek (91 : Int).toNat (az_cd 72) = zX8_kindHere_91 := rfl
set_option maxRecDepth 100000 in
theorem kX8_kindHere_92 : az_seek (92 : Int).toNat (az_cd 72) = zX8_kindHere_92 := rfl
set_option maxRecDepth 100000 in
theorem kX8_readsGuest_24 : az_seek (24 : Int).toNat (az_cd 73) = zX8_readsGuest_24 := rfl
set_option maxRecDepth 100000 in
theorem kX8_readsGuest_25 : az_seek (25 : Int).toNat (az_cd 73) = zX8_readsGuest_25 := rfl
set_option maxRecDepth 100000 in
theorem kX8_readsGuest_33 : az_seek (33 : Int).toNat (az_cd 73) = zX8_readsGuest_33 := rfl
set_option maxRecDepth 100000 in
theorem kX8_readsGuest_52 : az_seek (52 : Int).toNat (az_cd 73) = zX8_readsGuest_52 := rfl
set_option maxRecDepth 100000 in
theorem kX8_readsGuest_82 : az_seek (82 : Int).toNat (az_cd 73) = zX8_readsGuest_82 := rfl
set_option maxRecDepth 100000 in
theorem kX8_readsGuest_83 : az_seek (83 : Int).toNat (az_cd 73) = zX8_readsGuest_83 := rfl
set_option maxRecDepth 100000 in
theorem kX8_readsGuest_132 : az_seek (132 : Int).toNat (az_cd 73) = zX8_readsGuest_132 := rfl
set_option maxRecDepth 100000 in
theorem kX8_readsGuest_134 : az_seek (134 : Int).toNat (az_cd 73) = zX8_readsGuest_134 := rfl
set_option maxRecDepth 100000 in
theorem kX8_reads_2 : az_seek (2 : Int).toNat (az_cd 74) = zX8_reads_2 := rfl
set_option maxRecDepth 100000 in
theorem kX8_reads_21 : az_seek (21 : Int).toNat (az_cd 74) = zX8_reads_21 := rfl
set_option maxRecDepth 100000 in
theorem kX8_reads_74 : az_seek (74 : Int).toNat (az_cd 74) = zX8_reads_74 := rfl
set_option maxRecDepth 100000 in
theorem kX8_reads_76 : az_seek (76 : Int).toNat (az_cd 74) = zX8_reads_76 := rfl
set_option maxRecDepth 100000 in
theorem kX8_reads_78 : az_seek (78 : Int).toNat (az_cd 74) = zX8_reads_78 := rfl
set_option maxRecDepth 100000 in
theorem kX8_reads_100 : az_seek (100 : Int).toNat (az_cd 74) = zX8_reads_100 := rfl
set_option maxRecDepth 100000 in
theorem kX8_reads_106 : az_seek (106 : Int).toNat (az_cd 74) = zX8_reads_106 := rfl
set_option maxRecDepth 100000 in
theorem kX8_reads_115 : az_seek (115 : Int).toNat (az_cd 74) = zX8_reads_115 := rfl
set_option maxRecDepth 100000 in
theorem kX8_reads_119 : az_seek (119 : Int).toNat (az_cd 74) = zX8_reads_119 := rfl
set_option maxRecDepth 100000 in
theorem kX8_reads_135 : az_seek (135 : Int).toNat (az_cd 74) = zX8_reads_135 := rfl
set_option maxRecDepth 100000 in
theorem kX8_reads_142 : az_seek (142 : Int).toNat (az_cd 74) = zX8_reads_142 := rfl
set_option maxRecDepth 100000 in
theorem kX8_copies_3 : az_seek (3 : Int).toNat (az_cd 75) = zX8_copies_3 := rfl
set_option maxRecDepth 100000 in
theorem kX8_copies_28 : az_seek (28 : Int).toNat (az_cd 75) = zX8_copies_28 := rfl
set_option maxRecDepth 100000 in
theorem kX8_beach_33 : az_seek (33 : Int).toNat (az_cd 76) = zX8_beach_33 := rfl
set_option maxRecDepth 100000 in
theorem kX7_isIn_13 : az_seek (13 : Int).toNat (az_cd 81) = zX7_isIn_13 := rfl
set_option maxRecDepth 100000 in
theorem kX7_isIn_14 : az_seek (14 : Int).toNat (az_cd 81) = zX7_isIn_14 := rfl
set_option maxRecDepth 100000 in
theorem kX1_priceOf_22 : az_seek (22 : Int).toNat (az_cd 82) = zX1_priceOf_22 := rfl
set_option maxRecDepth 100000 in
theorem kX1_priceOf_28 : az_seek (28 : Int).toNat (az_cd 82) = zX1_priceOf_28 := rfl
set_option maxRecDepth 100000 in
theorem kX7_hour_13 : az_seek (13 : Int).toNat (az_cd 83) = zX7_hour_13 := rfl
set_option maxRecDepth 100000 in
theorem kX7_hour_28 : az_seek (28 : Int).toNat (az_cd 83) = zX7_hour_28 := rfl
set_option maxRecDepth 100000 in
theorem kX7_hour_53 : az_seek (53 : Int).toNat (az_cd 83) = zX7_hour_53 := rfl
set_option maxRecDepth 100000 in
theorem kX7_hour_67 : az_seek (67 : Int).toNat (az_cd 83) = zX7_hour_67 := rfl
set_option maxRecDepth 100000 in
theorem kX8_remember_11 : az_seek (11 : Int).toNat (az_cd 84) = zX8_remember_11 := rfl
set_option maxRecDepth 100000 in
theorem kX8_remember_39 : az_seek (39 : Int).toNat (az_cd 84) = zX8_remember_39 := rfl
set_option maxRecDepth 100000 in
theorem kX8_remember_49 : az_seek (49 : Int).toNat (az_cd 84) = zX8_remember_49 := rfl
set_option maxRecDepth 100000 in
theorem kX8_priceOf_28 : az_seek (28 : Int).toNat (az_cd 85) = zX8_priceOf_28 := rfl
set_option maxRecDepth 100000 in
theorem kX8_priceOf_37 : az_seek (37 : Int).toNat (az_cd 85) = zX8_priceOf_37 := rfl
set_option maxRecDepth 100000 in
theorem kX8_hour_10 : az_seek (10 : Int).toNat (az_cd 86) = zX8_hour_10 := rfl
set_option maxRecDepth 100000 in
theorem kX8_hour_24 : az_seek (24 : Int).toNat (az_cd 86) = zX8_hour_24 := rfl
set_option maxRecDepth 100000 in
theorem kX8_hour_32 : az_seek (32 : Int).toNat (az_cd 86) = zX8_hour_32 := rfl
set_option maxRecDepth 100000 in
theorem kX8_hour_78 : az_seek (78 : Int).toNat (az_cd 86) = zX8_hour_78 := rfl
set_option maxRecDepth 100000 in
theorem kX8_hour_84 : az_seek (84 : Int).toNat (az_cd 86) = zX8_hour_84 := rfl
set_option maxRecDepth 100000 in
theorem kX7_leave_14 : az_seek (14 : Int).toNat (az_cd 88) = zX7_leave_14 := rfl
set_option maxRecDepth 100000 in
theorem kX7_leave_31 : az_seek (31 : Int).toNat (az_cd 88) = zX7_leave_31 := rfl
set_option maxRecDepth 100000 in
theorem kX8_leave_11 : az_seek (11 : Int).toNat (az_cd 90) = zX8_leave_11 := rfl
set_option maxRecDepth 100000 in
theorem kX8_leave_27 : az_seek (27 : Int).toNat (az_cd 90) = zX8_leave_27 := rfl
set_option maxRecDepth 100000 in
theorem kX7_cloud_13 : az_seek (13 : Int).toNat (az_cd 92) = zX7_cloud_13 := rfl
set_option maxRecDepth 100000 in
theorem kX7_cloud_23 : az_seek (23 : Int).toNat (az_cd 92) = zX7_cloud_23 := rfl
set_option maxRecDepth 100000 in
theorem kX7_cloud_48 : az_seek (48 : Int).toNat (az_cd 92) = zX7_cloud_48 := rfl
set_option maxRecDepth 100000 in
theorem kX7_cloud_51 : az_seek (51 : Int).toNat (az_cd 92) = zX7_cloud_51 := rfl
set_option maxRecDepth 100000 in
theorem kX8_cloud_10 : az_seek (10 : Int).toNat (az_cd 93) = zX8_cloud_10 := rfl
set_option maxRecDepth 100000 in
theorem kX8_cloud_25 : az_seek (25 : Int).toNat (az_cd 93) = zX8_cloud_25 := rfl
set_option maxRecDepth 100000 in
theorem kX8_cloud_49 : az_seek (49 : Int).toNat (az_cd 93) = zX8_cloud_49 := rfl
set_option maxRecDepth 100000 in
theorem kX8_cloud_52 : az_seek (52 : Int).toNat (az_cd 93) = zX8_cloud_52 := rfl
set_option maxRecDepth 100000 in
theorem kX7_shade_19 : az_seek (19 : Int).toNat (az_cd 94) = zX7_shade_19 := rfl
set_option maxRecDepth 100000 in
theorem kX7_shade_22 : az_seek (22 : Int).toNat (az_cd 94) = zX7_shade_22 := rfl
set_option maxRecDepth 100000 in
theorem kX8_shade_18 : az_seek (18 : Int).toNat (az_cd 95) = zX8_shade_18 := rfl
set_option maxRecDepth 100000 in
theorem kX8_shade_21 : az_seek (21 : Int).toNat (az_cd 95) = zX8_shade_21 := rfl
set_option maxRecDepth 100000 in
theorem kX7_gift_23 : az_seek (23 : Int).toNat (az_cd 96) = zX7_gift_23 := rfl
set_option maxRecDepth 100000 in
theorem kX7_gift_26 : az_seek (26 : Int).toNat (az_cd 96) = zX7_gift_26 := rfl
set_option maxRecDepth 100000 in
theorem kX7_gift_66 : az_seek (66 : Int).toNat (az_cd 96) = zX7_gift_66 := rfl
set_option maxRecDepth 100000 in
theorem kX8_gift_20 : az_seek (20 : Int).toNat (az_cd 97) = zX8_gift_20 := rfl
set_option maxRecDepth 100000 in
theorem kX8_gift_23 : az_seek (23 : Int).toNat (az_cd 97) = zX8_gift_23 := rfl
set_option maxRecDepth 100000 in
theorem kX8_gift_44 : az_seek (44 : Int).toNat (az_cd 97) = zX8_gift_44 := rfl
set_option maxRecDepth 100000 in
theorem kX8_gift_45 : az_seek (45 : Int).toNat (az_cd 97) = zX8_gift_45 := rfl
set_option maxRecDepth 100000 in
theorem kX8_gift_68 : az_seek (68 : Int).toNat (az_cd 97) = zX8_gift_68 := rfl
set_option maxRecDepth 100000 in
theorem kX8_gift_89 : az_seek (89 : Int).toNat (az_cd 97) = zX8_gift_89 := rfl
set_option maxRecDepth 100000 in
theorem kX8_gift_92 : az_seek (92 : Int).toNat (az_cd 97) = zX8_gift_92 := rfl
set_option maxRecDepth 100000 in
theorem kX1_hoursOf_18 : az_seek (18 : Int).toNat (az_cd 98) = zX1_hoursOf_18 := rfl
set_option maxRecDepth 100000 in
theorem kX1_hoursOf_24 : az_seek (24 : Int).toNat (az_cd 98) = zX1_hoursOf_24 := rfl
set_option maxRecDepth 100000 in
theorem kX1_joyAlone_25 : az_seek (25 : Int).toNat (az_cd 99) = zX1_joyAlone_25 := rfl
set_option maxRecDepth 100000 in
theorem kX1_joyAlone_38 : az_seek (38 : Int).toNat (az_cd 99) = zX1_joyAlone_38 := rfl
set_option maxRecDepth 100000 in
theorem kX1_joyAlone_59 : az_seek (59 : Int).toNat (az_cd 99) = zX1_joyAlone_59 := rfl
set_option maxRecDepth 100000 in
theorem kX1_joyAlone_60 : az_seek (60 : Int).toNat (az_cd 99) = zX1_joyAlone_60 := rfl
set_option maxRecDepth 100000 in
theorem kX2_open_18 : az_seek (18 : Int).toNat (az_cd 100) = zX2_open_18 := rfl
set_option maxRecDepth 100000 in
theorem kX2_open_41 : az_seek (41 : Int).toNat (az_cd 100) = zX2_open_41 := rfl
set_option maxRecDepth 100000 in
theorem kX2_open_43 : az_seek (43 : Int).toNat (az_cd 100) = zX2_open_43 := rfl
set_option maxRecDepth 100000 in
theorem kX2_open_72 : az_seek (72 : Int).toNat (az_cd 100) = zX2_open_72 := rfl
set_option maxRecDepth 100000 in
theorem kX2_open_73 : az_seek (73 : Int).toNat (az_cd 100) = zX2_open_73 := rfl
set_option maxRecDepth 100000 in
theorem kX2_open_97 : az_seek (97 : Int).toNat (az_cd 100) = zX2_open_97 := rfl
set_option maxRecDepth 100000 in
theorem kX2_open_98 : az_seek (98 : Int).toNat (az_cd 100) = zX2_open_98 := rfl
set_option maxRecDepth 100000 in
theorem kX2_open_113 : az_seek (113 : Int).toNat (az_cd 100) = zX2_open_113 := rfl
set_option maxRecDepth 100000 in
theorem kX2_open_123 : az_seek (123 : Int).toNat (az_cd 100) = zX2_open_123 := rfl
set_option maxRecDepth 100000 in
theorem kX2_open_127 : az_seek (127 : Int).toNat (az_cd 100) = zX2_open_127 := rfl
set_option maxRecDepth 100000 in
theorem kX2_open_128 : az_seek (128 : Int).toNat (az_cd 100) = zX2_open_128 := rfl
set_option maxRecDepth 100000 in
theorem kX2_open_143 : az_seek (143 : Int).toNat (az_cd 100) = zX2_open_143 := rfl
set_option maxRecDepth 100000 in
theorem kX2_open_175 : az_seek (175 : Int).toNat (az_cd 100) = zX2_open_175 := rfl
set_option maxRecDepth 100000 in
theorem kX2_open_181 : az_seek (181 : Int).toNat (az_cd 100) = zX2_open_181 := rfl
set_option maxRecDepth 100000 in
theorem kX2_longest_4 : az_seek (4 : Int).toNat (az_cd 101) = zX2_longest_4 := rfl
set_option maxRecDepth 100000 in
theorem kX2_longest_31 : az_seek (31 : Int).toNat (az_cd 101) = zX2_longest_31 := rfl
set_option maxRecDepth 100000 in
theorem kX2_longest_32 : az_seek (32 : Int).toNat (az_cd 101) = zX2_longest_32 := rfl
set_option maxRecDepth 100000 in
theorem kX2_longest_39 : az_seek (39 : Int).toNat (az_cd 101) = zX2_longest_39 := rfl
set_option maxRecDepth 100000 in
theorem kX2_bill_4 : az_seek (4 : Int).toNat (az_cd 102) = zX2_bill_4 := rfl
set_option maxRecDepth 100000 in
theorem kX2_bill_24 : az_seek (24 : Int).toNat (az_cd 102) = zX2_bill_24 := rfl
set_option maxRecDepth 100000 in
theorem kX2_alike_9 : az_seek (9 : Int).toNat (az_cd 103) = zX2_alike_9 := rfl
set_option maxRecDepth 100000 in
theorem kX2_alike_59 : az_seek (59 : Int).toNat (az_cd 103) = zX2_alike_59 := rfl
set_option maxRecDepth 100000 in
theorem kX2_alike_60 : az_seek (60 : Int).toNat (az_cd 103) = zX2_alike_60 := rfl
set_option maxRecDepth 100000 in
theorem kX2_alike_63 : az_seek (63 : Int).toNat (az_cd 103) = zX2_alike_63 := rfl
set_option maxRecDepth 100000 in
theorem kX2_alike_69 : az_seek (69 : Int).toNat (az_cd 103) = zX2_alike_69 := rfl
set_option maxRecDepth 100000 in
theorem kX2_alike_84 : az_seek (84 : Int).toNat (az_cd 103) = zX2_alike_84 := rfl
set_option maxRecDepth 100000 in
theorem kX2_alike_86 : az_seek (86 : Int).toNat (az_cd 103) = zX2_alike_86 := rfl
set_option maxRecDepth 100000 in
theorem kX2_alike_112 : az_seek (112 : Int).toNat (az_cd 103) = zX2_alike_112 := rfl
set_option maxRecDepth 100000 in
theorem kX2_alike_124 : az_seek (124 : Int).toNat (az_cd 103) = zX2_alike_124 := rfl
set_option maxRecDepth 100000 in
theorem kX2_alike_126 : az_seek (126 : Int).toNat (az_cd 103) = zX2_alike_126 := rfl
set_option maxRecDepth 100000 in
theorem kX2_byWeight_6 : az_seek (6 : Int).toNat (az_cd 104) = zX2_byWeight_6 := rfl
set_option maxRecDepth 100000 in
theorem kX2_byWeight_41 : az_seek (41 : Int).toNat (az_cd 104) = zX2_byWeight_41 := rfl
set_option maxRecDepth 100000 in
theorem kX2_byWeight_48 : az_seek (48 : Int).toNat (az_cd 104) = zX2_byWeight_48 := rfl
set_option maxRecDepth 100000 in
theorem kX2_byWeight_58 : az_seek (58 : Int).toNat (az_cd 104) = zX2_byWeight_58 := rfl
set_option maxRecDepth 100000 in
theorem kX2_byWeight_114 : az_seek (114 : Int).toNat (az_cd 104) = zX2_byWeight_114 := rfl
set_option maxRecDepth 100000 in
theorem kX2_byWeight_120 : az_seek (120 : Int).toNat (az_cd 104) = zX2_byWeight_120 := rfl
set_option maxRecDepth 100000 in
theorem kX2_byWeight_149 : az_seek (149 : Int).toNat (az_cd 104) = zX2_byWeight_149 := rfl
set_option maxRecDepth 100000 in
theorem kX2_byWeight_150 : az_seek (150 : Int).toNat (az_cd 104) = zX2_byWeight_150 := rfl
set_option maxRecDepth 100000 in
theorem kX2_byHours_4 : az_seek (4 : Int).toNat (az_cd 105) = zX2_byHours_4 := rfl
set_option maxRecDepth 100000 in
theorem kX2_byHours_37 : az_seek (37 : Int).toNat (az_cd 105) = zX2_byHours_37 := rfl
set_option maxRecDepth 100000 in
theorem kX2_share_36 : az_seek (36 : Int).toNat (az_cd 106) = zX2_share_36 := rfl
set_option maxRecDepth 100000 in
theorem kX2_share_48 : az_seek (48 : Int).toNat (az_cd 106) = zX2_share_48 := rfl
set_option maxRecDepth 100000 in
theorem kX2_share_60 : az_seek (60 : Int).toNat (az_cd 106) = zX2_share_60 := rfl
set_option maxRecDepth 100000 in
theorem kX7_sunset_22 : az_seek (22 : Int).toNat (az_cd 111) = zX7_sunset_22 := rfl
set_option maxRecDepth 100000 in
theorem kX7_sunset_25 : az_seek (25 : Int).toNat (az_cd 111) = zX7_sunset_25 := rfl
set_option maxRecDepth 100000 in
theorem kX7_sunset_41 : az_seek (41 : Int).toNat (az_cd 111) = zX7_sunset_41 := rfl
set_option maxRecDepth 100000 in
theorem kX7_sunset_65 : az_seek (65 : Int).toNat (az_cd 111) = zX7_sunset_65 := rfl
set_option maxRecDepth 100000 in
theorem kX7_sunset_98 : az_seek (98 : Int).toNat (az_cd 111) = zX7_sunset_98 := rfl
set_option maxRecDepth 100000 in
theorem kX8_layNow_2 : az_seek (2 : Int).toNat (az_cd 112) = zX8_layNow_2 := rfl
set_option maxRecDepth 100000 in
theorem kX8_layNow_25 : az_seek (25 : Int).toNat (az_cd 112) = zX8_layNow_25 := rfl
set_option maxRecDepth 100000 in
theorem kX8_longest_4 : az_seek (4 : Int).toNat (az_cd 113) = zX8_longest_4 := rfl
set_option maxRecDepth 100000 in
theorem kX8_longest_33 : az_seek (33 : Int).toNat (az_cd 113) = zX8_longest_33 := rfl
set_option maxRecDepth 100000 in
theorem kX8_longest_34 : az_seek (34 : Int).toNat (az_cd 113) = zX8_longest_34 := rfl
set_option maxRecDepth 100000 in
theorem kX8_longest_41 : az_seek (41 : Int).toNat (az_cd 113) = zX8_longest_41 := rfl
set_option maxRecDepth 100000 in
theorem kX8_sum_4 : az_seek (4 : Int).toNat (az_cd 114) = zX8_sum_4 := rfl
set_option maxRecDepth 100000 in
theorem kX8_sum_27 : az_seek (27 : Int).toNat (az_cd 114) = zX8_sum_27 := rfl
set_option maxRecDepth 100000 in
theorem kX8_heads_17 : az_seek (17 : Int).toNat (az_cd 115) = zX8_heads_17 := rfl
set_option maxRecDepth 100000 in
theorem kX8_heads_18 : az_seek (18 : Int).toNat (az_cd 115) = zX8_heads_18 := rfl
set_option maxRecDepth 100000 in
theorem kX8_parts_5 : az_seek (5 : Int).toNat (az_cd 116) = zX8_parts_5 := rfl
set_option maxRecDepth 100000 in
theorem kX8_parts_37 : az_seek (37 : Int).toNat (az_cd 116) = zX8_parts_37 := rfl
set_option maxRecDepth 100000 in
theorem kX8_parts_38 : az_seek (38 : Int).toNat (az_cd 116) = zX8_parts_38 := rfl
set_option maxRecDepth 100000 in
theorem kX8_parts_46 : az_seek (46 : Int).toNat (az_cd 116) = zX8_parts_46 := rfl
set_option maxRecDepth 100000 in
theorem kX8_parts_52 : az_seek (52 : Int).toNat (az_cd 116) = zX8_parts_52 := rfl
set_option maxRecDepth 100000 in
theorem kX8_parts_66 : az_seek (66 : Int).toNat (az_cd 116) = zX8_parts_66 := rfl
set_option maxRecDepth 100000 in
theorem kX8_parts_111 : az_seek (111 : Int).toNat (az_cd 116) = zX8_parts_111 := rfl
set_option maxRecDepth 100000 in
theorem kX8_parts_112 : az_seek (112 : Int).toNat (az_cd 116) = zX8_parts_112 := rfl
set_option maxRecDepth 100000 in
theorem kX8_parts_124 : az_seek (124 : Int).toNat (az_cd 116) = zX8_parts_124 := rfl
set_option maxRecDepth 100000 in
theorem kX8_parts_130 : az_seek (130 : Int).toNat (az_cd 116) = zX8_parts_130 := rfl
set_option maxRecDepth 100000 in
theorem kX8_share_2 : az_seek (2 : Int).toNat (az_cd 117) = zX8_share_2 := rfl
set_option maxRecDepth 100000 in
theorem kX8_share_20 : az_seek (20 : Int).toNat (az_cd 117) = zX8_share_20 := rfl
set_option maxRecDepth 100000 in
theorem kX8_share_35 : az_seek (35 : Int).toNat (az_cd 117) = zX8_share_35 := rfl
set_option maxRecDepth 100000 in
theorem kX8_share_50 : az_seek (50 : Int).toNat (az_cd 117) = zX8_share_50 := rfl
set_option maxRecDepth 100000 in
theorem kX8_share_52 : az_seek (52 : Int).toNat (az_cd 117) = zX8_share_52 := rfl
set_option maxRecDepth 100000 in
theorem kX8_share_82 : az_seek (82 : Int).toNat (az_cd 117) = zX8_share_82 := rfl
set_option maxRecDepth 100000 in
theorem kX8_share_99 : az_seek (99 : Int).toNat (az_cd 117) = zX8_share_99 := rfl
set_option maxRecDepth 100000 in
theorem kX8_share_150 : az_seek (150 : Int).toNat (az_cd 117) = zX8_share_150 := rfl
set_option maxRecDepth 100000 in
theorem kX8_share_152 : az_seek (152 : Int).toNat (az_cd 117) = zX8_share_152 := rfl
set_option maxRecDepth 100000 in
theorem kX8_share_160 : az_seek (160 : Int).toNat (az_cd 117) = zX8_share_160 := rfl
set_option maxRecDepth 100000 in
theorem kX8_share_166 : az_seek (166 : Int).toNat (az_cd 117) = zX8_share_166 := rfl
set_option maxRecDepth 100000 in
theorem kX8_share_220 : az_seek (220 : Int).toNat (az_cd 117) = zX8_share_220 := rfl
set_option maxRecDepth 100000 in
theorem kX8_share_232 : az_seek (232 : Int).toNat (az_cd 117) = zX8_share_232 := rfl
set_option maxRecDepth 100000 in
theorem kX8_payOf_35 : az_seek (35 : Int).toNat (az_cd 118) = zX8_payOf_35 := rfl
set_option maxRecDepth 100000 in
theorem kX8_payOf_36 : az_seek (36 : Int).toNat (az_cd 118) = zX8_payOf_36 := rfl
set_option maxRecDepth 100000 in
theorem kX8_least_11 : az_seek (11 : Int).toNat (az_cd 119) = zX8_least_11 := rfl
set_option maxRecDepth 100000 in
theorem kX8_least_14 : az_seek (14 : Int).toNat (az_cd 119) = zX8_least_14 := rfl
set_option maxRecDepth 100000 in
theorem kX8_sunset_18 : az_seek (18 : Int).toNat (az_cd 120) = zX8_sunset_18 := rfl
set_option maxRecDepth 100000 in
theorem kX8_sunset_21 : az_seek (21 : Int).toNat (az_cd 120) = zX8_sunset_21 := rfl
set_option maxRecDepth 100000 in
theorem kX8_sunset_36 : az_seek (36 : Int).toNat (az_cd 120) = zX8_sunset_36 := rfl
set_option maxRecDepth 100000 in
theorem kX8_sunset_46 : az_seek (46 : Int).toNat (az_cd 120) = zX8_sunset_46 := rfl
set_option maxRecDepth 100000 in
theorem kX8_sunset_77 : az_seek (77 : Int).toNat (az_cd 120) = zX8_sunset_77 := rfl
set_option maxRecDepth 100000 in
theorem kX8_sunset_88 : az_seek (88 : Int).toNat (az_cd 120) = zX8_sunset_88 := rfl
set_option maxRecDepth 100000 in
theorem kX8_sunset_121 : az_seek (121 : Int).toNat (az_cd 120) = zX8_sunset_121 := rfl
set_option maxRecDepth 100000 in
theorem kX8_sunset_130 : az_seek (130 : Int).toNat (az_cd 120) = zX8_sunset_130 := rfl
set_option maxRecDepth 100000 in
theorem kX8_sunset_214 : az_seek (214 : Int).toNat (az_cd 120) = zX8_sunset_214 := rfl
set_option maxRecDepth 100000 in
theorem kX7_undo_13 : az_seek (13 : Int).toNat (az_cd 122) = zX7_undo_13 := rfl
set_option maxRecDepth 100000 in
theorem kX8_undo_10 : az_seek (10 : Int).toNat (az_cd 123) = zX8_undo_10 := rfl
set_option maxRecDepth 100000 in
theorem kX7_guest_14 : az_seek (14 : Int).toNat (az_cd 124) = zX7_guest_14 := rfl
set_option maxRecDepth 100000 in
theorem kX7_guest_56 : az_seek (56 : Int).toNat (az_cd 124) = zX7_guest_56 := rfl
set_option maxRecDepth 100000 in
theorem kX7_guest_66 : az_seek (66 : Int).toNat (az_cd 124) = zX7_guest_66 := rfl
set_option maxRecDepth 100000 in
theorem kX7_guest_76 : az_seek (76 : Int).toNat (az_cd 124) = zX7_guest_76 := rfl
set_option maxRecDepth 100000 in
theorem kX7_guest_86 : az_seek (86 : Int).toNat (az_cd 124) = zX7_guest_86 := rfl
set_option maxRecDepth 100000 in
theorem kX7_guest_98 : az_seek (98 : Int).toNat (az_cd 124) = zX7_guest_98 := rfl
set_option maxRecDepth 100000 in
theorem kX7_guest_107 : az_seek (107 : Int).toNat (az_cd 124) = zX7_guest_107 := rfl
set_option maxRecDepth 100000 in
theorem kX7_guest_119 : az_seek (119 : Int).toNat (az_cd 124) = zX7_guest_119 := rfl
set_option maxRecDepth 100000 in
theorem kX7_guest_129 : az_seek (129 : Int).toNat (az_cd 124) = zX7_guest_129 := rfl
set_option maxRecDepth 100000 in
theorem kX8_guest_20 : az_seek (20 : Int).toNat (az_cd 125) = zX8_guest_20 := rfl
set_option maxRecDepth 100000 in
theorem kX8_guest_23 : az_seek (23 : Int).toNat (az_cd 125) = zX8_guest_23 := rfl
set_option maxRecDepth 100000 in
theorem kX8_guest_64 : az_seek (64 : Int).toNat (az_cd 125) = zX8_guest_64 := rfl
set_option maxRecDepth 100000 in
theorem kX8_guest_74 : az_seek (74 : Int).toNat (az_cd 125) = zX8_guest_74 := rfl
set_option maxRecDepth 100000 in
theorem kX8_guest_84 : az_seek (84 : Int).toNat (az_cd 125) = zX8_guest_84 := rfl
set_option maxRecDepth 100000 in
theorem kX8_guest_94 : az_seek (94 : Int).toNat (az_cd 125) = zX8_guest_94 := rfl
set_option maxRecDepth 100000 in
theorem kX8_guest_106 : az_seek (106 : Int).toNat (az_cd 125) = zX8_guest_106 := rfl
set_option maxRecDepth 100000 in
theorem kX8_guest_116 : az_seek (116 : Int).toNat (az_cd 125) = zX8_guest_116 := rfl
set_option maxRecDepth 100000 in
theorem kX8_guest_126 : az_seek (126 : Int).toNat (az_cd 125) = zX8_guest_126 := rfl
set_option maxRecDepth 100000 in
theorem kX7_price_13 : az_seek (13 : Int).toNat (az_cd 126) = zX7_price_13 := rfl
set_option maxRecDepth 100000 in
theorem kX7_price_31 : az_seek (31 : Int).toNat (az_cd 126) = zX7_price_31 := rfl
set_option maxRecDepth 100000 in
theorem kX7_price_33 : az_seek (33 : Int).toNat (az_cd 126) = zX7_price_33 := rfl
set_option maxRecDepth 100000 in
theorem kX8_price_12 : az_seek (12 : Int).toNat (az_cd 127) = zX8_price_12 := rfl
set_option maxRecDepth 100000 in
theorem kX8_price_32 : az_seek (32 : Int).toNat (az_cd 127) = zX8_price_32 := rfl
set_option maxRecDepth 100000 in
theorem kX8_price_34 : az_seek (34 : Int).toNat (az_cd 127) = zX8_price_34 := rfl
set_option maxRecDepth 100000 in
theorem kX7_look_13 : az_seek (13 : Int).toNat (az_cd 128) = zX7_look_13 := rfl
set_option maxRecDepth 100000 in
theorem kX7_look_24 : az_seek (24 : Int).toNat (az_cd 128) = zX7_look_24 := rfl
set_option maxRecDepth 100000 in
theorem kX7_look_27 : az_seek (27 : Int).toNat (az_cd 128) = zX7_look_27 := rfl
set_option maxRecDepth 100000 in
theorem kX7_look_49 : az_seek (49 : Int).toNat (az_cd 128) = zX7_look_49 := rfl
set_option maxRecDepth 100000 in
theorem kX7_look_70 : az_seek (70 : Int).toNat (az_cd 128) = zX7_look_70 := rfl
set_option maxRecDepth 100000 in
theorem kX7_look_73 : az_seek (73 : Int).toNat (az_cd 128) = zX7_look_73 := rfl
set_option maxRecDepth 100000 in
theorem kX7_look_108 : az_seek (108 : Int).toNat (az_cd 128) = zX7_look_108 := rfl
set_option maxRecDepth 100000 in
theorem kX7_look_111 : az_seek (111 : Int).toNat (az_cd 128) = zX7_look_111 := rfl
set_option maxRecDepth 100000 in
theorem kX7_look_117 : az_seek (117 : Int).toNat (az_cd 128) = zX7_look_117 := rfl
set_option maxRecDepth 100000 in
theorem kX7_hear_52 : az_seek (52 : Int).toNat (az_cd 129) = zX7_hear_52 := rfl
set_option maxRecDepth 100000 in
theorem kX2_joyIn_5 : az_seek (5 : Int).toNat (az_cd 130) = zX2_joyIn_5 := rfl
set_option maxRecDepth 100000 in
theorem kX2_joyIn_34 : az_seek (34 : Int).toNat (az_cd 130) = zX2_joyIn_34 := rfl
set_option maxRecDepth 100000 in
theorem kX2_joyIn_40 : az_seek (40 : Int).toNat (az_cd 130) = zX2_joyIn_40 := rfl
set_option maxRecDepth 100000 in
theorem kX2_worthOf_4 : az_seek (4 : Int).toNat (az_cd 131) = zX2_worthOf_4 := rfl
set_option maxRecDepth 100000 in
theorem kX2_worthOf_29 : az_seek (29 : Int).toNat (az_cd 131) = zX2_worthOf_29 := rfl
set_option maxRecDepth 100000 in
theorem kX7_worth_25 : az_seek (25 : Int).toNat (az_cd 132) = zX7_worth_25 := rfl
set_option maxRecDepth 100000 in
theorem kX7_worth_26 : az_seek (26 : Int).toNat (az_cd 132) = zX7_worth_26 := rfl
set_option maxRecDepth 100000 in
theorem kX7_worth_39 : az_seek (39 : Int).toNat (az_cd 132) = zX7_worth_39 := rfl
set_option maxRecDepth 100000 in
theorem kX7_worth_68 : az_seek (68 : Int).toNat (az_cd 132) = zX7_worth_68 := rfl
set_option maxRecDepth 100000 in
theorem kX7_worth_77 : az_seek (77 : Int).toNat (az_cd 132) = zX7_worth_77 := rfl
set_option maxRecDepth 100000 in
theorem kX7_worth_86 : az_seek (86 : Int).toNat (az_cd 132) = zX7_worth_86 := rfl
set_option maxRecDepth 100000 in
theorem kX8_tells_10 : az_seek (10 : Int).toNat (az_cd 133) = zX8_tells_10 := rfl
set_option maxRecDepth 100000 in
theorem kX8_tells_21 : az_seek (21 : Int).toNat (az_cd 133) = zX8_tells_21 := rfl
set_option maxRecDepth 100000 in
theorem kX8_tells_24 : az_seek (24 : Int).toNat (az_cd 133) = zX8_tells_24 := rfl
set_option maxRecDepth 100000 in
theorem kX8_tells_39 : az_seek (39 : Int).toNat (az_cd 133) = zX8_tells_39 := rfl
set_option maxRecDepth 100000 in
theorem kX8_tells_60 : az_seek (60 : Int).toNat (az_cd 133) = zX8_tells_60 := rfl
set_option maxRecDepth 100000 in
theorem kX8_tells_63 : az_seek (63 : Int).toNat (az_cd 133) = zX8_tells_63 := rfl
set_option maxRecDepth 100000 in
theorem kX8_tells_99 : az_seek (99 : Int).toNat (az_cd 133) = zX8_tells_99 := rfl
set_option maxRecDepth 100000 in
theorem kX8_tells_124 : az_seek (124 : Int).toNat (az_cd 133) = zX8_tells_124 := rfl
set_option maxRecDepth 100000 in
theorem kX8_joyOf_41 : az_seek (41 : Int).toNat (az_cd 134) = zX8_joyOf_41 := rfl
set_option maxRecDepth 100000 in
theorem kX8_joyOf_60 : az_seek (60 : Int).toNat (az_cd 134) = zX8_joyOf_60 := rfl
set_option maxRecDepth 100000 in
theorem kX8_joyOf_62 : az_seek (62 : Int).toNat (az_cd 134) = zX8_joyOf_62 := rfl
set_option maxRecDepth 100000 in
theorem kX8_joyOf_70 : az_seek (70 : Int).toNat (az_cd 134) = zX8_joyOf_70 := rfl
set_option maxRecDepth 100000 in
theorem kX8_joyOf_104 : az_seek (104 : Int).toNat (az_cd 134) = zX8_joyOf_104 := rfl
set_option maxRecDepth 100000 in
theorem kX8_joyOf_105 : az_seek (105 : Int).toNat (az_cd 134) = zX8_joyOf_105 := rfl
set_option maxRecDepth 100000 in
theorem kX8_joyOf_114 : az_seek (114 : Int).toNat (az_cd 134) = zX8_joyOf_114 := rfl
set_option maxRecDepth 100000 in
theorem kX8_joyOf_131 : az_seek (131 : Int).toNat (az_cd 134) = zX8_joyOf_131 := rfl
set_option maxRecDepth 100000 in
theorem kX8_joyOf_133 : az_seek (133 : Int).toNat (az_cd 134) = zX8_joyOf_133 := rfl
set_option maxRecDepth 100000 in
theorem kX8_joyOf_134 : az_seek (134 : Int).toNat (az_cd 134) = zX8_joyOf_134 := rfl
set_option maxRecDepth 100000 in
theorem kX8_joyOf_147 : az_seek (147 : Int).toNat (az_cd 134) = zX8_joyOf_147 := rfl
set_option maxRecDepth 100000 in
theorem kX8_joyOf_160 : az_seek (160 : Int).toNat (az_cd 134) = zX8_joyOf_160 := rfl
set_option maxRecDepth 100000 in
theorem kX8_joyOf_162 : az_seek (162 : Int).toNat (az_cd 134) = zX8_joyOf_162 := rfl
set_option maxRecDepth 100000 in
theorem kX8_worthOf_13 : az_seek (13 : Int).toNat (az_cd 135) = zX8_worthOf_13 := rfl
set_option maxRecDepth 100000 in
theorem kX8_worthOf_38 : az_seek (38 : Int).toNat (az_cd 135) = zX8_worthOf_38 := rfl
set_option maxRecDepth 100000 in
theorem kX8_worth_26 : az_seek (26 : Int).toNat (az_cd 136) = zX8_worth_26 := rfl
set_option maxRecDepth 100000 in
theorem kX8_worth_27 : az_seek (27 : Int).toNat (az_cd 136) = zX8_worth_27 := rfl
set_option maxRecDepth 100000 in
theorem kX8_worth_42 : az_seek (42 : Int).toNat (az_cd 136) = zX8_worth_42 := rfl
set_option maxRecDepth 100000 in
theorem kX8_worth_58 : az_seek (58 : Int).toNat (az_cd 136) = zX8_worth_58 := rfl
set_option maxRecDepth 100000 in
theorem kX8_worth_71 : az_seek (71 : Int).toNat (az_cd 136) = zX8_worth_71 := rfl
set_option maxRecDepth 100000 in
theorem kX8_worth_77 : az_seek (77 : Int).toNat (az_cd 136) = zX8_worth_77 := rfl
set_option maxRecDepth 100000 in
theorem kX3_bestOf_18 : az_seek (18 : Int).toNat (az_cd 137) = zX3_bestOf_18 := rfl
set_option maxRecDepth 100000 in
theorem kX3_bestOf_88 : az_seek (88 : Int).toNat (az_cd 137) = zX3_bestOf_88 := rfl
set_option maxRecDepth 100000 in
theorem kX3_bestOf_89 : az_seek (89 : Int).toNat (az_cd 137) = zX3_bestOf_89 := rfl
set_option maxRecDepth 100000 in
theorem kX3_bestOf_112 : az_seek (112 : Int).toNat (az_cd 137) = zX3_bestOf_112 := rfl
set_option maxRecDepth 100000 in
theorem kX3_bestOf_113 : az_seek (113 : Int).toNat (az_cd 137) = zX3_bestOf_113 := rfl
set_option maxRecDepth 100000 in
theorem kX3_bestOf_122 : az_seek (122 : Int).toNat (az_cd 137) = zX3_bestOf_122 := rfl
set_option maxRecDepth 100000 in
theorem kX7_best_22 : az_seek (22 : Int).toNat (az_cd 138) = zX7_best_22 := rfl
set_option maxRecDepth 100000 in
theorem kX7_best_30 : az_seek (30 : Int).toNat (az_cd 138) = zX7_best_30 := rfl
set_option maxRecDepth 100000 in
theorem kX8_bestOf_15 : az_seek (15 : Int).toNat (az_cd 139) = zX8_bestOf_15 := rfl
set_option maxRecDepth 100000 in
theorem kX8_bestOf_49 : az_seek (49 : Int).toNat (az_cd 139) = zX8_bestOf_49 := rfl
set_option maxRecDepth 100000 in
theorem kX8_bestOf_56 : az_seek (56 : Int).toNat (az_cd 139) = zX8_bestOf_56 := rfl
set_option maxRecDepth 100000 in
theorem kX8_bestOf_62 : az_seek (62 : Int).toNat (az_cd 139) = zX8_bestOf_62 := rfl
set_option maxRecDepth 100000 in
theorem kX8_best_21 : az_seek (21 : Int).toNat (az_cd 140) = zX8_best_21 := rfl
set_option maxRecDepth 100000 in
theorem kX8_best_26 : az_seek (26 : Int).toNat (az_cd 140) = zX8_best_26 := rfl
set_option maxRecDepth 100000 in
theorem kX3_turns_2 : az_seek (2 : Int).toNat (az_cd 141) = zX3_turns_2 := rfl
set_option maxRecDepth 100000 in
theorem kX3_turns_12 : az_seek (12 : Int).toNat (az_cd 141) = zX3_turns_12 := rfl
set_option maxRecDepth 100000 in
theorem kX3_turns_52 : az_seek (52 : Int).toNat (az_cd 141) = zX3_turns_52 := rfl
set_option maxRecDepth 100000 in
theorem kX3_turns_53 : az_seek (53 : Int).toNat (az_cd 141) = zX3_turns_53 := rfl
set_option maxRecDepth 100000 in
theorem kX3_turns_71 : az_seek (71 : Int).toNat (az_cd 141) = zX3_turns_71 := rfl
set_option maxRecDepth 100000 in
theorem kX3_turns_77 : az_seek (77 : Int).toNat (az_cd 141) = zX3_turns_77 := rfl
set_option maxRecDepth 100000 in
theorem kX3_turns_83 : az_seek (83 : Int).toNat (az_cd 141) = zX3_turns_83 := rfl
set_option maxRecDepth 100000 in
theorem kX7_rounds_18 : az_seek (18 : Int).toNat (az_cd 142) = zX7_rounds_18 := rfl
set_option maxRecDepth 100000 in
theorem kX7_rounds_22 : az_seek (22 : Int).toNat (az_cd 142) = zX7_rounds_22 := rfl
set_option maxRecDepth 100000 in
theorem kX7_rounds_23 : az_seek (23 : Int).toNat (az_cd 142) = zX7_rounds_23 := rfl
set_option maxRecDepth 100000 in
theorem kX7_rounds_33 : az_seek (33 : Int).toNat (az_cd 142) = zX7_rounds_33 := rfl
set_option maxRecDepth 100000 in
theorem kX7_rounds_52 : az_seek (52 : Int).toNat (az_cd 142) = zX7_rounds_52 := rfl
set_option maxRecDepth 100000 in
theorem kX7_rounds_61 : az_seek (61 : Int).toNat (az_cd 142) = zX7_rounds_61 := rfl
set_option maxRecDepth 100000 in
theorem kX8_turns_2 : az_seek (2 : Int).toNat (az_cd 143) = zX8_turns_2 := rfl
set_option maxRecDepth 100000 in
theorem kX8_turns_12 : az_seek (12 : Int).toNat (az_cd 143) = zX8_turns_12 := rfl
set_option maxRecDepth 100000 in
theorem kX8_turns_44 : az_seek (44 : Int).toNat (az_cd 143) = zX8_turns_44 := rfl
set_option maxRecDepth 100000 in
theorem kX8_turns_48 : az_seek (48 : Int).toNat (az_cd 143) = zX8_turns_48 := rfl
set_option maxRecDepth 100000 in
theorem kX8_turns_49 : az_seek (49 : Int).toNat (az_cd 143) = zX8_turns_49 := rfl
set_option maxRecDepth 100000 in
theorem kX8_turns_64 : az_seek (64 : Int).toNat (az_cd 143) = zX8_turns_64 := rfl
set_option maxRecDepth 100000 in
theorem kX8_turns_70 : az_seek (70 : Int).toNat (az_cd 143) = zX8_turns_70 := rfl
set_option maxRecDepth 100000 in
theorem kX8_turns_76 : az_seek (76 : Int).toNat (az_cd 143) = zX8_turns_76 := rfl
set_option maxRecDepth 100000 in
theorem kX8_rounds_15 : az_seek (15 : Int).toNat (az_cd 144) = zX8_rounds_15 := rfl
set_option maxRecDepth 100000 in
theorem kX8_rounds_19 : az_seek (19 : Int).toNat (az_cd 144) = zX8_rounds_19 := rfl
set_option maxRecDepth 100000 in
theorem kX8_rounds_20 : az_seek (20 : Int).toNat (az_cd 144) = zX8_rounds_20 := rfl
set_option maxRecDepth 100000 in
theorem kX8_rounds_32 : az_seek (32 : Int).toNat (az_cd 144) = zX8_rounds_32 := rfl
set_option maxRecDepth 100000 in
theorem kX8_rounds_47 : az_seek (47 : Int).toNat (az_cd 144) = zX8_rounds_47 := rfl
set_option maxRecDepth 100000 in
theorem kX8_rounds_53 : az_seek (53 : Int).toNat (az_cd 144) = zX8_rounds_53 := rfl
set_option maxRecDepth 100000 in
theorem kX3_forgetCommon_2 : az_seek (2 : Int).toNat (az_cd 145) = zX3_forgetCommon_2 := rfl
set_option maxRecDepth 100000 in
theorem kX3_forgetCommon_21 : az_seek (21 : Int).toNat (az_cd 145) = zX3_forgetCommon_21 := rfl
set_option maxRecDepth 100000 in
theorem kX3_countChoices_4 : az_seek (4 : Int).toNat (az_cd 146) = zX3_countChoices_4 := rfl
set_option maxRecDepth 100000 in
theorem kX3_countChoices_26 : az_seek (26 : Int).toNat (az_cd 146) = zX3_countChoices_26 := rfl
set_option maxRecDepth 100000 in
theorem kX3_choose_12 : az_seek (12 : Int).toNat (az_cd 147) = zX3_choose_12 := rfl
set_option maxRecDepth 100000 in
theorem kX3_choose_40 : az_seek (40 : Int).toNat (az_cd 147) = zX3_choose_40 := rfl
set_option maxRecDepth 100000 in
theorem kX3_isContent_33 : az_seek (33 : Int).toNat (az_cd 148) = zX3_isContent_33 := rfl
set_option maxRecDepth 100000 in
theorem kX3_isContent_34 : az_seek (34 : Int).toNat (az_cd 148) = zX3_isContent_34 := rfl
set_option maxRecDepth 100000 in
theorem kX3_isRest_2 : az_seek (2 : Int).toNat (az_cd 149) = zX3_isRest_2 := rfl
set_option maxRecDepth 100000 in
theorem kX3_isRest_23 : az_seek (23 : Int).toNat (az_cd 149) = zX3_isRest_23 := rfl
set_option maxRecDepth 100000 in
theorem kX3_isRest_29 : az_seek (29 : Int).toNat (az_cd 149) = zX3_isRest_29 := rfl
set_option maxRecDepth 100000 in
theorem kX3_countRests_13 : az_seek (13 : Int).toNat (az_cd 150) = zX3_countRests_13 := rfl
set_option maxRecDepth 100000 in
theorem kX3_countRests_57 : az_seek (57 : Int).toNat (az_cd 150) = zX3_countRests_57 := rfl
set_option maxRecDepth 100000 in
theorem kX3_countRests_60 : az_seek (60 : Int).toNat (az_cd 150) = zX3_countRests_60 := rfl
set_option maxRecDepth 100000 in
theorem kX3_countRests_66 : az_seek (66 : Int).toNat (az_cd 150) = zX3_countRests_66 := rfl
set_option maxRecDepth 100000 in
theorem kX7_rests_13 : az_seek (13 : Int).toNat (az_cd 151) = zX7_rests_13 := rfl
set_option maxRecDepth 100000 in
theorem kX7_rests_32 : az_seek (32 : Int).toNat (az_cd 151) = zX7_rests_32 := rfl
set_option maxRecDepth 100000 in
theorem kX7_rests_60 : az_seek (60 : Int).toNat (az_cd 151) = zX7_rests_60 := rfl
set_option maxRecDepth 100000 in
theorem kX7_rests_69 : az_seek (69 : Int).toNat (az_cd 151) = zX7_rests_69 := rfl
set_option maxRecDepth 100000 in
theorem kX8_rows_4 : az_seek (4 : Int).toNat (az_cd 152) = zX8_rows_4 := rfl
set_option maxRecDepth 100000 in
theorem kX8_rows_25 : az_seek (25 : Int).toNat (az_cd 152) = zX8_rows_25 := rfl
set_option maxRecDepth 100000 in
theorem kX8_tellBy_11 : az_seek (11 : Int).toNat (az_cd 153) = zX8_tellBy_11 := rfl
set_option maxRecDepth 100000 in
theorem kX8_tellBy_36 : az_seek (36 : Int).toNat (az_cd 153) = zX8_tellBy_36 := rfl
set_option maxRecDepth 100000 in
theorem kX8_isRest_4 : az_seek (4 : Int).toNat (az_cd 154) = zX8_isRest_4 := rfl
set_option maxRecDepth 100000 in
theorem kX8_isRest_35 : az_seek (35 : Int).toNat (az_cd 154) = zX8_isRest_35 := rfl
set_option maxRecDepth 100000 in
theorem kX8_isRest_68 : az_seek (68 : Int).toNat (az_cd 154) = zX8_isRest_68 := rfl
set_option maxRecDepth 100000 in
theorem kX8_isRest_69 : az_seek (69 : Int).toNat (az_cd 154) = zX8_isRest_69 := rfl
set_option maxRecDepth 100000 in
theorem kX8_isRest_76 : az_seek (76 : Int).toNat (az_cd 154) = zX8_isRest_76 := rfl
set_option maxRecDepth 100000 in
theorem kX8_isRest_89 : az_seek (89 : Int).toNat (az_cd 154) = zX8_isRest_89 := rfl
set_option maxRecDepth 100000 in
theorem kX8_rests_10 : az_seek (10 : Int).toNat (az_cd 155) = zX8_rests_10 := rfl
set_option maxRecDepth 100000 in
theorem kX8_rests_26 : az_seek (26 : Int).toNat (az_cd 155) = zX8_rests_26 := rfl
set_option maxRecDepth 100000 in
theorem kX8_rests_38 : az_seek (38 : Int).toNat (az_cd 155) = zX8_rests_38 := rfl
set_option maxRecDepth 100000 in
theorem kX8_rests_77 : az_seek (77 : Int).toNat (az_cd 155) = zX8_rests_77 := rfl
set_option maxRecDepth 100000 in
theorem kX8_rests_78 : az_seek (78 : Int).toNat (az_cd 155) = zX8_rests_78 := rfl
set_option maxRecDepth 100000 in
theorem kX8_rests_82 : az_seek (82 : Int).toNat (az_cd 155) = zX8_rests_82 := rfl
set_option maxRecDepth 100000 in
theorem kX8_rests_88 : az_seek (88 : Int).toNat (az_cd 155) = zX8_rests_88 := rfl
set_option maxRecDepth 100000 in
theorem kX8_rests_96 : az_seek (96 : Int).toNat (az_cd 155) = zX8_rests_96 := rfl
set_option maxRecDepth 100000 in
theorem kX8_rests_97 : az_seek (97 : Int).toNat (az_cd 155) = zX8_rests_97 := rfl
set_option maxRecDepth 100000 in
theorem kX3_agree_22 : az_seek (22 : Int).toNat (az_cd 156) = zX3_agree_22 := rfl
set_option maxRecDepth 100000 in
theorem kX3_agree_79 : az_seek (79 : Int).toNat (az_cd 156) = zX3_agree_79 := rfl
set_option maxRecDepth 100000 in
theorem kX3_agree_85 : az_seek (85 : Int).toNat (az_cd 156) = zX3_agree_85 := rfl
set_option maxRecDepth 100000 in
theorem kX7_pact_42 : az_seek (42 : Int).toNat (az_cd 157) = zX7_pact_42 := rfl
set_option maxRecDepth 100000 in
theorem kX7_pact_43 : az_seek (43 : Int).toNat (az_cd 157) = zX7_pact_43 := rfl
set_option maxRecDepth 100000 in
theorem kX7_pact_56 : az_seek (56 : Int).toNat (az_cd 157) = zX7_pact_56 := rfl
set_option maxRecDepth 100000 in
theorem kX7_pact_80 : az_seek (80 : Int).toNat (az_cd 157) = zX7_pact_80 := rfl
set_option maxRecDepth 100000 in
theorem kX7_pact_83 : az_seek (83 : Int).toNat (az_cd 157) = zX7_pact_83 := rfl
set_option maxRecDepth 100000 in
theorem kX7_pact_109 : az_seek (109 : Int).toNat (az_cd 157) = zX7_pact_109 := rfl
set_option maxRecDepth 100000 in
theorem kX7_pact_110 : az_seek (110 : Int).toNat (az_cd 157) = zX7_pact_110 := rfl
set_option maxRecDepth 100000 in
theorem kX8_pact_38 : az_seek (38 : Int).toNat (az_cd 158) = zX8_pact_38 := rfl
set_option maxRecDepth 100000 in
theorem kX8_pact_39 : az_seek (39 : Int).toNat (az_cd 158) = zX8_pact_39 := rfl
set_option maxRecDepth 100000 in
theorem kX8_pact_54 : az_seek (54 : Int).toNat (az_cd 158) = zX8_pact_54 := rfl
set_option maxRecDepth 100000 in
theorem kX8_pact_74 : az_seek (74 : Int).toNat (az_cd 158) = zX8_pact_74 := rfl
set_option maxRecDepth 100000 in
theorem kX8_pact_126 : az_seek (126 : Int).toNat (az_cd 158) = zX8_pact_126 := rfl
set_option maxRecDepth 100000 in
theorem kX8_pact_127 : az_seek (127 : Int).toNat (az_cd 158) = zX8_pact_127 := rfl
set_option maxRecDepth 100000 in
theorem kX8_pact_135 : az_seek (135 : Int).toNat (az_cd 158) = zX8_pact_135 := rfl
set_option maxRecDepth 100000 in
theorem kX8_pact_148 : az_seek (148 : Int).toNat (az_cd 158) = zX8_pact_148 := rfl
set_option maxRecDepth 100000 in
theorem kX8_pact_158 : az_seek (158 : Int).toNat (az_cd 158) = zX8_pact_158 := rfl
set_option maxRecDepth 100000 in
theorem kX8_pact_160 : az_seek (160 : Int).toNat (az_cd 158) = zX8_pact_160 := rfl
set_option maxRecDepth 100000 in
theorem kX8_pact_161 : az_seek (161 : Int).toNat (az_cd 158) = zX8_pact_161 := rfl
set_option maxRecDepth 100000 in
theorem kX8_pact_181 : az_seek (181 : Int).toNat (az_cd 158) = zX8_pact_181 := rfl
set_option maxRecDepth 100000 in
theorem kX8_pact_215 : az_seek (215 : Int).toNat (az_cd 158) = zX8_pact_215 := rfl
set_option maxRecDepth 100000 in
theorem kX8_pact_216 : az_seek (216 : Int).toNat (az_cd 158) = zX8_pact_216 := rfl
set_option maxRecDepth 100000 in
theorem kX8_pact_253 : az_seek (253 : Int).toNat (az_cd 158) = zX8_pact_253 := rfl
set_option maxRecDepth 100000 in
theorem kX8_pact_254 : az_seek (254 : Int).toNat (az_cd 158) = zX8_pact_254 := rfl
set_option maxRecDepth 100000 in
theorem kX8_pact_270 : az_seek (270 : Int).toNat (az_cd 158) = zX8_pact_270 := rfl
set_option maxRecDepth 100000 in
theorem kX8_pact_279 : az_seek (279 : Int).toNat (az_cd 158) = zX8_pact_279 := rfl
set_option maxRecDepth 100000 in
theorem kX8_pact_280 : az_seek (280 : Int).toNat (az_cd 158) = zX8_pact_280 := rfl
set_option maxRecDepth 100000 in
theorem kX3_meanAlone_9 : az_seek (9 : Int).toNat (az_cd 159) = zX3_meanAlone_9 := rfl
set_option maxRecDepth 100000 in
theorem kX3_meanAlone_110 : az_seek (110 : Int).toNat (az_cd 159) = zX3_meanAlone_110 := rfl
set_option maxRecDepth 100000 in
theorem kX3_commonDivisor_9 : az_seek (9 : Int).toNat (az_cd 160) = zX3_commonDivisor_9 := rfl
set_option maxRecDepth 100000 in
theorem kX3_commonDivisor_44 : az_seek (44 : Int).toNat (az_cd 160) = zX3_commonDivisor_44 := rfl
set_option maxRecDepth 100000 in
theorem kX7_alone_13 : az_seek (13 : Int).toNat (az_cd 161) = zX7_alone_13 := rfl
set_option maxRecDepth 100000 in
theorem kX7_alone_42 : az_seek (42 : Int).toNat (az_cd 161) = zX7_alone_42 := rfl
set_option maxRecDepth 100000 in
theorem kX7_alone_45 : az_seek (45 : Int).toNat (az_cd 161) = zX7_alone_45 := rfl
set_option maxRecDepth 100000 in
theorem kX7_alone_90 : az_seek (90 : Int).toNat (az_cd 161) = zX7_alone_90 := rfl
set_option maxRecDepth 100000 in
theorem kX7_alone_93 : az_seek (93 : Int).toNat (az_cd 161) = zX7_alone_93 := rfl
set_option maxRecDepth 100000 in
theorem kX8_alone_10 : az_seek (10 : Int).toNat (az_cd 162) = zX8_alone_10 := rfl
set_option maxRecDepth 100000 in
theorem kX8_alone_40 : az_seek (40 : Int).toNat (az_cd 162) = zX8_alone_40 := rfl
set_option maxRecDepth 100000 in
theorem kX8_alone_43 : az_seek (43 : Int).toNat (az_cd 162) = zX8_alone_43 := rfl
set_option maxRecDepth 100000 in
theorem kX8_alone_46 : az_seek (46 : Int).toNat (az_cd 162) = zX8_alone_46 := rfl
set_option maxRecDepth 100000 in
theorem kX8_alone_66 : az_seek (66 : Int).toNat (az_cd 162) = zX8_alone_66 := rfl
set_option maxRecDepth 100000 in
theorem kX8_alone_75 : az_seek (75 : Int).toNat (az_cd 162) = zX8_alone_75 := rfl
set_option maxRecDepth 100000 in
theorem kX8_alone_109 : az_seek (109 : Int).toNat (az_cd 162) = zX8_alone_109 := rfl
set_option maxRecDepth 100000 in
theorem kX8_alone_110 : az_seek (110 : Int).toNat (az_cd 162) = zX8_alone_110 := rfl
set_option maxRecDepth 100000 in
theorem kX8_alone_173 : az_seek (173 : Int).toNat (az_cd 162) = zX8_alone_173 := rfl
set_option maxRecDepth 100000 in
theorem kX8_alone_174 : az_seek (174 : Int).toNat (az_cd 162) = zX8_alone_174 := rfl
set_option maxRecDepth 100000 in
theorem kX8_alone_192 : az_seek (192 : Int).toNat (az_cd 162) = zX8_alone_192 := rfl
set_option maxRecDepth 100000 in
theorem kX8_alone_193 : az_seek (193 : Int).toNat (az_cd 162) = zX8_alone_193 := rfl
set_option maxRecDepth 100000 in
theorem kX8_alone_211 : az_seek (211 : Int).toNat (az_cd 162) = zX8_alone_211 := rfl
set_option maxRecDepth 100000 in
theorem kX8_alone_219 : az_seek (219 : Int).toNat (az_cd 162) = zX8_alone_219 := rfl
set_option maxRecDepth 100000 in
theorem kX8_alone_244 : az_seek (244 : Int).toNat (az_cd 162) = zX8_alone_244 := rfl
set_option maxRecDepth 100000 in
theorem kX8_alone_256 : az_seek (256 : Int).toNat (az_cd 162) = zX8_alone_256 := rfl
set_option maxRecDepth 100000 in
theorem kX8_alone_261 : az_seek (261 : Int).toNat (az_cd 162) = zX8_alone_261 := rfl
set_option maxRecDepth 100000 in
theorem kX3_isPaid_2 : az_seek (2 : Int).toNat (az_cd 163) = zX3_isPaid_2 := rfl
set_option maxRecDepth 100000 in
theorem kX3_isPaid_29 : az_seek (29 : Int).toNat (az_cd 163) = zX3_isPaid_29 := rfl
set_option maxRecDepth 100000 in
theorem kX3_isPaid_35 : az_seek (35 : Int).toNat (az_cd 163) = zX3_isPaid_35 := rfl
set_option maxRecDepth 100000 in
theorem kX3_meetCommon_2 : az_seek (2 : Int).toNat (az_cd 164) = zX3_meetCommon_2 := rfl
set_option maxRecDepth 100000 in
theorem kX3_meetCommon_35 : az_seek (35 : Int).toNat (az_cd 164) = zX3_meetCommon_35 := rfl
set_option maxRecDepth 100000 in
theorem kX3_meetCommon_61 : az_seek (61 : Int).toNat (az_cd 164) = zX3_meetCommon_61 := rfl
set_option maxRecDepth 100000 in
theorem kX3_meetCommon_67 : az_seek (67 : Int).toNat (az_cd 164) = zX3_meetCommon_67 := rfl
set_option maxRecDepth 100000 in
theorem kX3_explain_14 : az_seek (14 : Int).toNat (az_cd 165) = zX3_explain_14 := rfl
set_option maxRecDepth 100000 in
theorem kX3_explain_43 : az_seek (43 : Int).toNat (az_cd 165) = zX3_explain_43 := rfl
set_option maxRecDepth 100000 in
theorem kX3_explain_44 : az_seek (44 : Int).toNat (az_cd 165) = zX3_explain_44 := rfl
set_option maxRecDepth 100000 in
theorem kX3_explain_50 : az_seek (50 : Int).toNat (az_cd 165) = zX3_explain_50 := rfl
set_option maxRecDepth 100000 in
theorem kX3_explain_56 : az_seek (56 : Int).toNat (az_cd 165) = zX3_explain_56 := rfl
set_option maxRecDepth 100000 in
theorem kX7_explained_18 : az_seek (18 : Int).toNat (az_cd 166) = zX7_explained_18 := rfl
set_option maxRecDepth 100000 in
theorem kX7_explained_22 : az_seek (22 : Int).toNat (az_cd 166) = zX7_explained_22 := rfl
set_option maxRecDepth 100000 in
theorem kX7_explained_23 : az_seek (23 : Int).toNat (az_cd 166) = zX7_explained_23 := rfl
set_option maxRecDepth 100000 in
theorem kX7_explained_36 : az_seek (36 : Int).toNat (az_cd 166) = zX7_explained_36 := rfl
set_option maxRecDepth 100000 in
theorem kX7_explained_75 : az_seek (75 : Int).toNat (az_cd 166) = zX7_explained_75 := rfl
set_option maxRecDepth 100000 in
theorem kX7_explained_84 : az_seek (84 : Int).toNat (az_cd 166) = zX7_explained_84 := rfl
set_option maxRecDepth 100000 in
theorem kX8_explained_15 : az_seek (15 : Int).toNat (az_cd 167) = zX8_explained_15 := rfl
set_option maxRecDepth 100000 in
theorem kX8_explained_19 : az_seek (19 : Int).toNat (az_cd 167) = zX8_explained_19 := rfl
set_option maxRecDepth 100000 in
theorem kX8_explained_20 : az_seek (20 : Int).toNat (az_cd 167) = zX8_explained_20 := rfl
set_option maxRecDepth 100000 in
theorem kX8_explained_32 : az_seek (32 : Int).toNat (az_cd 167) = zX8_explained_32 := rfl
set_option maxRecDepth 100000 in
theorem kX8_explained_42 : az_seek (42 : Int).toNat (az_cd 167) = zX8_explained_42 := rfl
set_option maxRecDepth 100000 in
theorem kX8_explained_67 : az_seek (67 : Int).toNat (az_cd 167) = zX8_explained_67 := rfl
set_option maxRecDepth 100000 in
theorem kX8_explained_108 : az_seek (108 : Int).toNat (az_cd 167) = zX8_explained_108 := rfl
set_option maxRecDepth 100000 in
theorem kX8_explained_109 : az_seek (109 : Int).toNat (az_cd 167) = zX8_explained_109 := rfl
set_option maxRecDepth 100000 in
theorem kX8_explained_117 : az_seek (117 : Int).toNat (az_cd 167) = zX8_explained_117 := rfl
set_option maxRecDepth 100000 in
theorem kX8_explained_142 : az_seek (142 : Int).toNat (az_cd 167) = zX8_explained_142 := rfl
set_option maxRecDepth 100000 in
theorem kX8_explained_151 : az_seek (151 : Int).toNat (az_cd 167) = zX8_explained_151 := rfl
set_option maxRecDepth 100000 in
theorem kX8_explained_153 : az_seek (153 : Int).toNat (az_cd 167) = zX8_explained_153 := rfl
set_option maxRecDepth 100000 in
theorem kX8_explained_155 : az_seek (155 : Int).toNat (az_cd 167) = zX8_explained_155 := rfl
set_option maxRecDepth 100000 in
theorem kX8_explained_166 : az_seek (166 : Int).toNat (az_cd 167) = zX8_explained_166 := rfl
set_option maxRecDepth 100000 in
theorem kX8_explained_167 : az_seek (167 : Int).toNat (az_cd 167) = zX8_explained_167 := rfl
set_option maxRecDepth 100000 in
theorem kX8_explained_176 : az_seek (176 : Int).toNat (az_cd 167) = zX8_explained_176 := rfl
set_option maxRecDepth 100000 in
theorem kX8_explained_185 : az_seek (185 : Int).toNat (az_cd 167) = zX8_explained_185 := rfl
set_option maxRecDepth 100000 in
theorem kX8_explained_187 : az_seek (187 : Int).toNat (az_cd 167) = zX8_explained_187 := rfl
set_option maxRecDepth 100000 in
theorem kX3_gapOfWorths_12 : az_seek (12 : Int).toNat (az_cd 168) = zX3_gapOfWorths_12 := rfl
set_option maxRecDepth 100000 in
theorem kX3_gapOfWorths_25 : az_seek (25 : Int).toNat (az_cd 168) = zX3_gapOfWorths_25 := rfl
set_option maxRecDepth 100000 in
theorem kX3_gapOfWorths_66 : az_seek (66 : Int).toNat (az_cd 168) = zX3_gapOfWorths_66 := rfl
set_option maxRecDepth 100000 in
theorem kX3_fairestSplit_7 : az_seek (7 : Int).toNat (az_cd 169) = zX3_fairestSplit_7 := rfl
set_option maxRecDepth 100000 in
theorem kX3_fairestSplit_37 : az_seek (37 : Int).toNat (az_cd 169) = zX3_fairestSplit_37 := rfl
set_option maxRecDepth 100000 in
theorem kX3_fairestSplit_43 : az_seek (43 : Int).toNat (az_cd 169) = zX3_fairestSplit_43 := rfl
set_option maxRecDepth 100000 in
theorem kX3_restingSplits_4 : az_seek (4 : Int).toNat (az_cd 170) = zX3_restingSplits_4 := rfl
set_option maxRecDepth 100000 in
theorem kX3_restingSplits_30 : az_seek (30 : Int).toNat (az_cd 170) = zX3_restingSplits_30 := rfl
set_option maxRecDepth 100000 in
theorem kX3_restingSplits_36 : az_seek (36 : Int).toNat (az_cd 170) = zX3_restingSplits_36 := rfl
set_option maxRecDepth 100000 in
theorem kX7_laws_17 : az_seek (17 : Int).toNat (az_cd 171) = zX7_laws_17 := rfl
set_option maxRecDepth 100000 in
theorem kX7_laws_31 : az_seek (31 : Int).toNat (az_cd 171) = zX7_laws_31 := rfl
set_option maxRecDepth 100000 in
theorem kX7_laws_38 : az_seek (38 : Int).toNat (az_cd 171) = zX7_laws_38 := rfl
set_option maxRecDepth 100000 in
theorem kX8_laws_21 : az_seek (21 : Int).toNat (az_cd 172) = zX8_laws_21 := rfl
set_option maxRecDepth 100000 in
theorem kX8_laws_33 : az_seek (33 : Int).toNat (az_cd 172) = zX8_laws_33 := rfl
set_option maxRecDepth 100000 in
theorem kX8_laws_54 : az_seek (54 : Int).toNat (az_cd 172) = zX8_laws_54 := rfl
set_option maxRecDepth 100000 in
theorem kX8_laws_85 : az_seek (85 : Int).toNat (az_cd 172) = zX8_laws_85 := rfl
set_option maxRecDepth 100000 in
theorem kX8_laws_90 : az_seek (90 : Int).toNat (az_cd 172) = zX8_laws_90 := rfl
set_option maxRecDepth 100000 in
theorem kX8_laws_92 : az_seek (92 : Int).toNat (az_cd 172) = zX8_laws_92 := rfl
set_option maxRecDepth 100000 in
theorem kX8_laws_106 : az_seek (106 : Int).toNat (az_cd 172) = zX8_laws_106 := rfl
set_option maxRecDepth 100000 in
theorem kX8_laws_111 : az_seek (111 : Int).toNat (az_cd 172) = zX8_laws_111 := rfl
set_option maxRecDepth 100000 in
theorem kX8_laws_113 : az_seek (113 : Int).toNat (az_cd 172) = zX8_laws_113 := rfl
set_option maxRecDepth 100000 in
theorem kX8_laws_121 : az_seek (121 : Int).toNat (az_cd 172) = zX8_laws_121 := rfl
set_option maxRecDepth 100000 in
theorem kX8_laws_136 : az_seek (136 : Int).toNat (az_cd 172) = zX8_laws_136 := rfl
set_option maxRecDepth 100000 in
theorem kX8_laws_147 : az_seek (147 : Int).toNat (az_cd 172) = zX8_laws_147 := rfl
set_option maxRecDepth 100000 in
theorem kX8_laws_163 : az_seek (163 : Int).toNat (az_cd 172) = zX8_laws_163 := rfl
set_option maxRecDepth 100000 in
theorem kX8_laws_164 : az_seek (164 : Int).toNat (az_cd 172) = zX8_laws_164 := rfl
set_option maxRecDepth 100000 in
theorem kX8_laws_173 : az_seek (173 : Int).toNat (az_cd 172) = zX8_laws_173 := rfl
set_option maxRecDepth 100000 in
theorem kX8_laws_182 : az_seek (182 : Int).toNat (az_cd 172) = zX8_laws_182 := rfl
set_option maxRecDepth 100000 in
theorem kX8_laws_184 : az_seek (184 : Int).toNat (az_cd 172) = zX8_laws_184 := rfl
set_option maxRecDepth 100000 in
theorem kX3_ownersPrice_26 : az_seek (26 : Int).toNat (az_cd 173) = zX3_ownersPrice_26 := rfl
set_option maxRecDepth 100000 in
theorem kX3_ownersPrice_51 : az_seek (51 : Int).toNat (az_cd 173) = zX3_ownersPrice_51 := rfl
set_option maxRecDepth 100000 in
theorem kX3_ownersPrice_73 : az_seek (73 : Int).toNat (az_cd 173) = zX3_ownersPrice_73 := rfl
set_option maxRecDepth 100000 in
theorem kX3_ownersPrice_101 : az_seek (101 : Int).toNat (az_cd 173) = zX3_ownersPrice_101 := rfl
set_option maxRecDepth 100000 in
theorem kX3_ownersPrice_107 : az_seek (107 : Int).toNat (az_cd 173) = zX3_ownersPrice_107 := rfl
set_option maxRecDepth 100000 in
theorem kX7_owner_17 : az_seek (17 : Int).toNat (az_cd 174) = zX7_owner_17 := rfl
set_option maxRecDepth 100000 in
theorem kX7_owner_35 : az_seek (35 : Int).toNat (az_cd 174) = zX7_owner_35 := rfl
set_option maxRecDepth 100000 in
theorem kX7_owner_42 : az_seek (42 : Int).toNat (az_cd 174) = zX7_owner_42 := rfl
set_option maxRecDepth 100000 in
theorem kX8_owner_21 : az_seek (21 : Int).toNat (az_cd 175) = zX8_owner_21 := rfl
set_option maxRecDepth 100000 in
theorem kX8_owner_30 : az_seek (30 : Int).toNat (az_cd 175) = zX8_owner_30 := rfl
set_option maxRecDepth 100000 in
theorem kX8_owner_49 : az_seek (49 : Int).toNat (az_cd 175) = zX8_owner_49 := rfl
set_option maxRecDepth 100000 in
theorem kX8_owner_71 : az_seek (71 : Int).toNat (az_cd 175) = zX8_owner_71 := rfl
set_option maxRecDepth 100000 in
theorem kX8_owner_96 : az_seek (96 : Int).toNat (az_cd 175) = zX8_owner_96 := rfl
set_option maxRecDepth 100000 in
theorem kX8_owner_102 : az_seek (102 : Int).toNat (az_cd 175) = zX8_owner_102 := rfl
set_option maxRecDepth 100000 in
theorem kX8_owner_111 : az_seek (111 : Int).toNat (az_cd 175) = zX8_owner_111 := rfl
set_option maxRecDepth 100000 in
theorem kX8_owner_113 : az_seek (113 : Int).toNat (az_cd 175) = zX8_owner_113 := rfl
set_option maxRecDepth 100000 in
theorem kX7_owes_21 : az_seek (21 : Int).toNat (az_cd 176) = zX7_owes_21 := rfl
set_option maxRecDepth 100000 in
theorem kX7_owes_24 : az_seek (24 : Int).toNat (az_cd 176) = zX7_owes_24 := rfl
set_option maxRecDepth 100000 in
theorem kX7_owes_37 : az_seek (37 : Int).toNat (az_cd 176) = zX7_owes_37 := rfl
set_option maxRecDepth 100000 in
theorem kX7_owes_54 : az_seek (54 : Int).toNat (az_cd 176) = zX7_owes_54 := rfl
set_option maxRecDepth 100000 in
theorem kX8_owes_20 : az_seek (20 : Int).toNat (az_cd 177) = zX8_owes_20 := rfl
set_option maxRecDepth 100000 in
theorem kX8_owes_23 : az_seek (23 : Int).toNat (az_cd 177) = zX8_owes_23 := rfl
set_option maxRecDepth 100000 in
theorem kX8_owes_36 : az_seek (36 : Int).toNat (az_cd 177) = zX8_owes_36 := rfl
set_option maxRecDepth 100000 in
theorem kX8_owes_58 : az_seek (58 : Int).toNat (az_cd 177) = zX8_owes_58 := rfl
set_option maxRecDepth 100000 in
theorem kX7_image_11 : az_seek (11 : Int).toNat (az_cd 178) = zX7_image_11 := rfl
set_option maxRecDepth 100000 in
theorem kX7_image_24 : az_seek (24 : Int).toNat (az_cd 178) = zX7_image_24 := rfl
set_option maxRecDepth 100000 in
theorem kX8_image_13 : az_seek (13 : Int).toNat (az_cd 179) = zX8_image_13 := rfl
set_option maxRecDepth 100000 in
theorem kX8_image_23 : az_seek (23 : Int).toNat (az_cd 179) = zX8_image_23 := rfl
set_option maxRecDepth 100000 in
theorem kX7_restore_11 : az_seek (11 : Int).toNat (az_cd 180) = zX7_restore_11 := rfl
set_option maxRecDepth 100000 in
theorem kX7_restore_26 : az_seek (26 : Int).toNat (az_cd 180) = zX7_restore_26 := rfl
set_option maxRecDepth 100000 in
theorem kX8_restore_13 : az_seek (13 : Int).toNat (az_cd 181) = zX8_restore_13 := rfl
set_option maxRecDepth 100000 in
theorem kX8_restore_25 : az_seek (25 : Int).toNat (az_cd 181) = zX8_restore_25 := rfl
set_option maxRecDepth 100000 in
theorem kX7_kind_23 : az_seek (23 : Int).toNat (az_cd 182) = zX7_kind_23 := rfl
set_option maxRecDepth 100000 in
theorem kX7_kind_25 : az_seek (25 : Int).toNat (az_cd 182) = zX7_kind_25 := rfl
set_option maxRecDepth 100000 in
theorem kX8_kind_20 : az_seek (20 : Int).toNat (az_cd 183) = zX8_kind_20 := rfl
set_option maxRecDepth 100000 in
theorem kX8_kind_22 : az_seek (22 : Int).toNat (az_cd 183) = zX8_kind_22 := rfl
set_option maxRecDepth 100000 in
theorem kX0_isKindOf_4 : az_seek (4 : Int).toNat (az_cd 184) = zX0_isKindOf_4 := rfl
set_option maxRecDepth 100000 in
theorem kX0_isKindOf_25 : az_seek (25 : Int).toNat (az_cd 184) = zX0_isKindOf_25 := rfl
set_option maxRecDepth 100000 in
theorem kX0_isKindOf_37 : az_seek (37 : Int).toNat (az_cd 184) = zX0_isKindOf_37 := rfl
set_option maxRecDepth 100000 in
theorem kX7_as_20 : az_seek (20 : Int).toNat (az_cd 185) = zX7_as_20 := rfl
set_option maxRecDepth 100000 in
theorem kX7_as_23 : az_seek (23 : Int).toNat (az_cd 185) = zX7_as_23 := rfl
set_option maxRecDepth 100000 in
theorem kX7_as_45 : az_seek (45 : Int).toNat (az_cd 185) = zX7_as_45 := rfl
set_option maxRecDepth 100000 in
theorem kX8_isOf_24 : az_seek (24 : Int).toNat (az_cd 186) = zX8_isOf_24 := rfl
set_option maxRecDepth 100000 in
theorem kX8_isOf_34 : az_seek (34 : Int).toNat (az_cd 186) = zX8_isOf_34 := rfl
set_option maxRecDepth 100000 in
theorem kX8_isOf_38 : az_seek (38 : Int).toNat (az_cd 186) = zX8_isOf_38 := rfl
set_option maxRecDepth 100000 in
theorem kX8_isOf_39 : az_seek (39 : Int).toNat (az_cd 186) = zX8_isOf_39 := rfl
set_option maxRecDepth 100000 in
theorem kX8_as_20 : az_seek (20 : Int).toNat (az_cd 187) = zX8_as_20 := rfl
set_option maxRecDepth 100000 in
theorem kX8_as_23 : az_seek (23 : Int).toNat (az_cd 187) = zX8_as_23 := rfl
set_option maxRecDepth 100000 in
theorem kX8_as_47 : az_seek (47 : Int).toNat (az_cd 187) = zX8_as_47 := rfl
set_option maxRecDepth 100000 in
theorem kX8_as_52 : az_seek (52 : Int).toNat (az_cd 187) = zX8_as_52 := rfl
set_option maxRecDepth 100000 in
theorem kX0_note_29 : az_seek (29 : Int).toNat (az_cd 188) = zX0_note_29 := rfl
set_option maxRecDepth 100000 in
theorem kX0_markAs0_9 : az_seek (9 : Int).toNat (az_cd 189) = zX0_markAs0_9 := rfl
set_option maxRecDepth 100000 in
theorem kX0_markAs0_44 : az_seek (44 : Int).toNat (az_cd 189) = zX0_markAs0_44 := rfl
set_option maxRecDepth 100000 in
theorem kX0_markAs0_69 : az_seek (69 : Int).toNat (az_cd 189) = zX0_markAs0_69 := rfl
set_option maxRecDepth 100000 in
theorem kX0_markAs0_89 : az_seek (89 : Int).toNat (az_cd 189) = zX0_markAs0_89 := rfl
set_option maxRecDepth 100000 in
theorem kX0_markAs0_111 : az_seek (111 : Int).toNat (az_cd 189) = zX0_markAs0_111 := rfl
set_option maxRecDepth 100000 in
theorem kX0_markAs0_150 : az_seek (150 : Int).toNat (az_cd 189) = zX0_markAs0_150 := rfl
set_option maxRecDepth 100000 in
theorem kX0_markAs0_162 : az_seek (162 : Int).toNat (az_cd 189) = zX0_markAs0_162 := rfl
set_option maxRecDepth 100000 in
theorem kX0_sizeAs0_9 : az_seek (9 : Int).toNat (az_cd 190) = zX0_sizeAs0_9 := rfl
set_option maxRecDepth 100000 in
theorem kX0_sizeAs0_44 : az_seek (44 : Int).toNat (az_cd 190) = zX0_sizeAs0_44 := rfl
set_option maxRecDepth 100000 in
theorem kX0_sizeAs0_83 : az_seek (83 : Int).toNat (az_cd 190) = zX0_sizeAs0_83 := rfl
set_option maxRecDepth 100000 in
theorem kX0_sizeAs0_102 : az_seek (102 : Int).toNat (az_cd 190) = zX0_sizeAs0_102 := rfl
set_option maxRecDepth 100000 in
theorem kX0_sizeAs0_123 : az_seek (123 : Int).toNat (az_cd 190) = zX0_sizeAs0_123 := rfl
set_option maxRecDepth 100000 in
theorem kX0_sizeAs0_143 : az_seek (143 : Int).toNat (az_cd 190) = zX0_sizeAs0_143 := rfl
set_option maxRecDepth 100000 in
theorem kX0_sizeAs0_155 : az_seek (155 : Int).toNat (az_cd 190) = zX0_sizeAs0_155 := rfl
set_option maxRecDepth 100000 in
theorem kX0_markAs1_9 : az_seek (9 : Int).toNat (az_cd 191) = zX0_markAs1_9 := rfl
set_option maxRecDepth 100000 in
theorem kX0_markAs1_44 : az_seek (44 : Int).toNat (az_cd 191) = zX0_markAs1_44 := rfl
set_option maxRecDepth 100000 in
theorem kX0_markAs1_69 : az_seek (69 : Int).toNat (az_cd 191) = zX0_markAs1_69 := rfl
set_option maxRecDepth 100000 in
theorem kX0_markAs1_89 : az_seek (89 : Int).toNat (az_cd 191) = zX0_markAs1_89 := rfl
set_option maxRecDepth 100000 in
theorem kX0_markAs1_111 : az_seek (111 : Int).toNat (az_cd 191) = zX0_markAs1_111 := rfl
set_option maxRecDepth 100000 in
theorem kX0_markAs1_150 : az_seek (150 : Int).toNat (az_cd 191) = zX0_markAs1_150 := rfl
set_option maxRecDepth 100000 in
theorem kX0_markAs1_162 : az_seek (162 : Int).toNat (az_cd 191) = zX0_markAs1_162 := rfl
set_option maxRecDepth 100000 in
theorem kX0_sizeAs1_9 : az_seek (9 : Int).toNat (az_cd 192) = zX0_sizeAs1_9 := rfl
set_option maxRecDepth 100000 in
theorem kX0_sizeAs1_44 : az_seek (44 : Int).toNat (az_cd 192) = zX0_sizeAs1_44 := rfl
set_option maxRecDepth 100000 in
theorem kX0_sizeAs1_83 : az_seek (83 : Int).toNat (az_cd 192) = zX0_sizeAs1_83 := rfl
set_option maxRecDepth 100000 in
theorem kX0_sizeAs1_102 : az_seek (102 : Int).toNat (az_cd 192) = zX0_sizeAs1_102 := rfl
set_option maxRecDepth 100000 in
theorem kX0_sizeAs1_123 : az_seek (123 : Int).toNat (az_cd 192) = zX0_sizeAs1_123 := rfl
set_option maxRecDepth 100000 in
theorem kX0_sizeAs1_143 : az_seek (143 : Int).toNat (az_cd 192) = zX0_sizeAs1_143 := rfl
set_option maxRecDepth 100000 in
theorem kX0_sizeAs1_155 : az_seek (155 : Int).toNat (az_cd 192) = zX0_sizeAs1_155 := rfl
set_option maxRecDepth 100000 in
theorem kX0_markAs2_9 : az_seek (9 : Int).toNat (az_cd 193) = zX0_markAs2_9 := rfl
set_option maxRecDepth 100000 in
theorem kX0_markAs2_44 : az_seek (44 : Int).toNat (az_cd 193) = zX0_markAs2_44 := rfl
set_option maxRecDepth 100000 in
theorem kX0_markAs2_69 : az_seek (69 : Int).toNat (az_cd 193) = zX0_markAs2_69 := rfl
set_option maxRecDepth 100000 in
theorem kX0_markAs2_89 : az_seek (89 : Int).toNat (az_cd 193) = zX0_markAs2_89 := rfl
set_option maxRecDepth 100000 in
theorem kX0_markAs2_111 : az_seek (111 : Int).toNat (az_cd 193) = zX0_markAs2_111 := rfl
set_option maxRecDepth 100000 in
theorem kX0_markAs2_150 : az_seek (150 : Int).toNat (az_cd 193) = zX0_markAs2_150 := rfl
set_option maxRecDepth 100000 in
theorem kX0_markAs2_162 : az_seek (162 : Int).toNat (az_cd 193) = zX0_markAs2_162 := rfl
set_option maxRecDepth 100000 in
theorem kX0_sizeAs2_9 : az_seek (9 : Int).toNat (az_cd 194) = zX0_sizeAs2_9 := rfl
set_option maxRecDepth 100000 in
theorem kX0_sizeAs2_44 : az_seek (44 : Int).toNat (az_cd 194) = zX0_sizeAs2_44 := rfl
set_option maxRecDepth 100000 in
theorem kX0_sizeAs2_83 : az_seek (83 : Int).toNat (az_cd 194) = zX0_sizeAs2_83 := rfl
set_option maxRecDepth 100000 in
theorem kX0_sizeAs2_102 : az_seek (102 : Int).toNat (az_cd 194) = zX0_sizeAs2_102 := rfl
set_option maxRecDepth 100000 in
theorem kX0_sizeAs2_123 : az_seek (123 : Int).toNat (az_cd 194) = zX0_sizeAs2_123 := rfl
set_option maxRecDepth 100000 in
theorem kX0_sizeAs2_143 : az_seek (143 : Int).toNat (az_cd 194) = zX0_sizeAs2_143 := rfl
set_option maxRecDepth 100000 in
theorem kX0_sizeAs2_155 : az_seek (155 : Int).toNat (az_cd 194) = zX0_sizeAs2_155 := rfl
set_option maxRecDepth 100000 in
theorem kX0_markAs3_9 : az_seek (9 : Int).toNat (az_cd 195) = zX0_markAs3_9 := rfl
set_option maxRecDepth 100000 in
theorem kX0_markAs3_44 : az_seek (44 : Int).toNat (az_cd 195) = zX0_markAs3_44 := rfl
set_option maxRecDepth 100000 in
theorem kX0_markAs3_69 : az_seek (69 : Int).toNat (az_cd 195) = zX0_markAs3_69 := rfl
set_option maxRecDepth 100000 in
theorem kX0_markAs3_89 : az_seek (89 : Int).toNat (az_cd 195) = zX0_markAs3_89 := rfl
set_option maxRecDepth 100000 in
theorem kX0_markAs3_111 : az_seek (111 : Int).toNat (az_cd 195) = zX0_markAs3_111 := rfl
set_option maxRecDepth 100000 in
theorem kX0_markAs3_150 : az_seek (150 : Int).toNat (az_cd 195) = zX0_markAs3_150 := rfl
set_option maxRecDepth 100000 in
theorem kX0_markAs3_162 : az_seek (162 : Int).toNat (az_cd 195) = zX0_markAs3_162 := rfl
set_option maxRecDepth 100000 in
theorem kX0_sizeAs3_9 : az_seek (9 : Int).toNat (az_cd 196) = zX0_sizeAs3_9 := rfl
set_option maxRecDepth 100000 in
theorem kX0_sizeAs3_44 : az_seek (44 : Int).toNat (az_cd 196) = zX0_sizeAs3_44 := rfl
set_option maxRecDepth 100000 in
theorem kX0_sizeAs3_83 : az_seek (83 : Int).toNat (az_cd 196) = zX0_sizeAs3_83 := rfl
set_option maxRecDepth 100000 in
theorem kX0_sizeAs3_102 : az_seek (102 : Int).toNat (az_cd 196) = zX0_sizeAs3_102 := rfl
set_option maxRecDepth 100000 in
theorem kX0_sizeAs3_123 : az_seek (123 : Int).toNat (az_cd 196) = zX0_sizeAs3_123 := rfl
set_option maxRecDepth 100000 in
theorem kX0_sizeAs3_143 : az_seek (143 : Int).toNat (az_cd 196) = zX0_sizeAs3_143 := rfl
set_option maxRecDepth 100000 in
theorem kX0_sizeAs3_155 : az_seek (155 : Int).toNat (az_cd 196) = zX0_sizeAs3_155 := rfl
set_option maxRecDepth 100000 in
theorem kX0_markAs4_9 : az_seek (9 : Int).toNat (az_cd 197) = zX0_markAs4_9 := rfl
set_option maxRecDepth 100000 in
theorem kX0_markAs4_44 : az_seek (44 : Int).toNat (az_cd 197) = zX0_markAs4_44 := rfl
set_option maxRecDepth 100000 in
theorem kX0_markAs4_69 : az_seek (69 : Int).toNat (az_cd 197) = zX0_markAs4_69 := rfl
set_option maxRecDepth 100000 in
theorem kX0_markAs4_89 : az_seek (89 : Int).toNat (az_cd 197) = zX0_markAs4_89 := rfl
set_option maxRecDepth 100000 in
theorem kX0_markAs4_111 : az_seek (111 : Int).toNat (az_cd 197) = zX0_markAs4_111 := rfl
set_option maxRecDepth 100000 in
theorem kX0_markAs4_150 : az_seek (150 : Int).toNat (az_cd 197) = zX0_markAs4_150 := rfl
set_option maxRecDepth 100000 in
theorem kX0_markAs4_162 : az_seek (162 : Int).toNat (az_cd 197) = zX0_markAs4_162 := rfl
set_option maxRecDepth 100000 in
theorem kX0_sizeAs4_9 : az_seek (9 : Int).toNat (az_cd 198) = zX0_sizeAs4_9 := rfl
set_option maxRecDepth 100000 in
theorem kX0_sizeAs4_44 : az_seek (44 : Int).toNat (az_cd 198) = zX0_sizeAs4_44 := rfl
set_option maxRecDepth 100000 in
theorem kX0_sizeAs4_83 : az_seek (83 : Int).toNat (az_cd 198) = zX0_sizeAs4_83 := rfl
set_option maxRecDepth 100000 in
theorem kX0_sizeAs4_102 : az_seek (102 : Int).toNat (az_cd 198) = zX0_sizeAs4_102 := rfl
set_option maxRecDepth 100000 in
theorem kX0_sizeAs4_123 : az_seek (123 : Int).toNat (az_cd 198) = zX0_sizeAs4_123 := rfl
set_option maxRecDepth 100000 in
theorem kX0_sizeAs4_143 : az_seek (143 : Int).toNat (az_cd 198) = zX0_sizeAs4_143 := rfl
set_option maxRecDepth 100000 in
theorem kX0_sizeAs4_155 : az_seek (155 : Int).toNat (az_cd 198) = zX0_sizeAs4_155 := rfl
set_option maxRecDepth 100000 in
theorem kX0_markAs5_9 : az_seek (9 : Int).toNat (az_cd 199) = zX0_markAs5_9 := rfl
set_option maxRecDepth 100000 in
theorem kX0_markAs5_44 : az_seek (44 : Int).toNat (az_cd 199) = zX0_markAs5_44 := rfl
set_option maxRecDepth 100000 in
theorem kX0_markAs5_69 : az_seek (69 : Int).toNat (az_cd 199) = zX0_markAs5_69 := rfl
set_option maxRecDepth 100000 in
theorem kX0_markAs5_89 : az_seek (89 : Int).toNat (az_cd 199) = zX0_markAs5_89 := rfl
set_option maxRecDepth 100000 in
theorem kX0_markAs5_111 : az_seek (111 : Int).toNat (az_cd 199) = zX0_markAs5_111 := rfl
set_option maxRecDepth 100000 in
theorem kX0_markAs5_150 : az_seek (150 : Int).toNat (az_cd 199) = zX0_markAs5_150 := rfl
set_option maxRecDepth 100000 in
theorem kX0_markAs5_162 : az_seek (162 : Int).toNat (az_cd 199) = zX0_markAs5_162 := rfl
set_option maxRecDepth 100000 in
theorem kX0_sizeAs5_9 : az_seek (9 : Int).toNat (az_cd 200) = zX0_sizeAs5_9 := rfl
set_option maxRecDepth 100000 in
theorem kX0_sizeAs5_44 : az_seek (44 : Int).toNat (az_cd 200) = zX0_sizeAs5_44 := rfl
set_option maxRecDepth 100000 in
theorem kX0_sizeAs5_83 : az_seek (83 : Int).toNat (az_cd 200) = zX0_sizeAs5_83 := rfl
set_option maxRecDepth 100000 in
theorem kX0_sizeAs5_102 : az_seek (102 : Int).toNat (az_cd 200) = zX0_sizeAs5_102 := rfl
set_option maxRecDepth 100000 in
theorem kX0_sizeAs5_123 : az_seek (123 : Int).toNat (az_cd 200) = zX0_sizeAs5_123 := rfl
set_option maxRecDepth 100000 in
theorem kX0_sizeAs5_143 : az_seek (143 : Int).toNat (az_cd 200) = zX0_sizeAs5_143 := rfl
set_option maxRecDepth 100000 in
theorem kX0_sizeAs5_155 : az_seek (155 : Int).toNat (az_cd 200) = zX0_sizeAs5_155 := rfl
set_option maxRecDepth 100000 in
theorem kX0_markAs6_9 : az_seek (9 : Int).toNat (az_cd 201) = zX0_markAs6_9 := rfl
set_option maxRecDepth 100000 in
theorem kX0_markAs6_44 : az_seek (44 : Int).toNat (az_cd 201) = zX0_markAs6_44 := rfl
set_option maxRecDepth 100000 in
theorem kX0_markAs6_69 : az_seek (69 : Int).toNat (az_cd 201) = zX0_markAs6_69 := rfl
set_option maxRecDepth 100000 in
theorem kX0_markAs6_89 : az_seek (89 : Int).toNat (az_cd 201) = zX0_markAs6_89 := rfl
set_option maxRecDepth 100000 in
theorem kX0_markAs6_111 : az_seek (111 : Int).toNat (az_cd 201) = zX0_markAs6_111 := rfl
set_option maxRecDepth 100000 in
theorem kX0_markAs6_150 : az_seek (150 : Int).toNat (az_cd 201) = zX0_markAs6_150 := rfl
set_option maxRecDepth 100000 in
theorem kX0_markAs6_162 : az_seek (162 : Int).toNat (az_cd 201) = zX0_markAs6_162 := rfl
set_option maxRecDepth 100000 in
theorem kX0_sizeAs6_9 : az_seek (9 : Int).toNat (az_cd 202) = zX0_sizeAs6_9 := rfl
set_option maxRecDepth 100000 in
theorem kX0_sizeAs6_44 : az_seek (44 : Int).toNat (az_cd 202) = zX0_sizeAs6_44 := rfl
set_option maxRecDepth 100000 in
theorem kX0_sizeAs6_83 : az_seek (83 : Int).toNat (az_cd 202) = zX0_sizeAs6_83 := rfl
set_option maxRecDepth 100000 in
theorem kX0_sizeAs6_102 : az_seek (102 : Int).toNat (az_cd 202) = zX0_sizeAs6_102 := rfl
set_option maxRecDepth 100000 in
theorem kX0_sizeAs6_123 : az_seek (123 : Int).toNat (az_cd 202) = zX0_sizeAs6_123 := rfl
set_option maxRecDepth 100000 in
theorem kX0_sizeAs6_143 : az_seek (143 : Int).toNat (az_cd 202) = zX0_sizeAs6_143 := rfl
set_option maxRecDepth 100000 in
theorem kX0_sizeAs6_155 : az_seek (155 : Int).toNat (az_cd 202) = zX0_sizeAs6_155 := rfl
set_option maxRecDepth 100000 in
theorem kX0_begin_29 : az_seek (29 : Int).toNat (az_cd 203) = zX0_begin_29 := rfl
set_option maxRecDepth 100000 in
theorem kX0_begin_38 : az_seek (38 : Int).toNat (az_cd 203) = zX0_begin_38 := rfl
set_option maxRecDepth 100000 in
theorem kX7_ask_19 : az_seek (19 : Int).toNat (az_cd 204) = zX7_ask_19 := rfl
set_option maxRecDepth 100000 in
theorem kX7_ask_22 : az_seek (22 : Int).toNat (az_cd 204) = zX7_ask_22 := rfl
set_option maxRecDepth 100000 in
theorem kX8_leave__2 : az_seek (2 : Int).toNat (az_cd 205) = zX8_leave__2 := rfl
set_option maxRecDepth 100000 in
theorem kX8_leave__21 : az_seek (21 : Int).toNat (az_cd 205) = zX8_leave__21 := rfl
set_option maxRecDepth 100000 in
theorem kX8_leave__24 : az_seek (24 : Int).toNat (az_cd 205) = zX8_leave__24 := rfl
set_option maxRecDepth 100000 in
theorem kX8_leave__69 : az_seek (69 : Int).toNat (az_cd 205) = zX8_leave__69 := rfl
set_option maxRecDepth 100000 in
theorem kX8_mark_34 : az_seek (34 : Int).toNat (az_cd 206) = zX8_mark_34 := rfl
set_option maxRecDepth 100000 in
theorem kX8_mark_45 : az_seek (45 : Int).toNat (az_cd 206) = zX8_mark_45 := rfl
set_option maxRecDepth 100000 in
theorem kX8_mark_48 : az_seek (48 : Int).toNat (az_cd 206) = zX8_mark_48 := rfl
set_option maxRecDepth 100000 in
theorem kX8_mark_62 : az_seek (62 : Int).toNat (az_cd 206) = zX8_mark_62 := rfl
set_option maxRecDepth 100000 in
theorem kX8_mark_75 : az_seek (75 : Int).toNat (az_cd 206) = zX8_mark_75 := rfl
set_option maxRecDepth 100000 in
theorem kX8_mark_76 : az_seek (76 : Int).toNat (az_cd 206) = zX8_mark_76 := rfl
set_option maxRecDepth 100000 in
theorem kX8_sizeOf_30 : az_seek (30 : Int).toNat (az_cd 207) = zX8_sizeOf_30 := rfl
set_option maxRecDepth 100000 in
theorem kX8_sizeOf_31 : az_seek (31 : Int).toNat (az_cd 207) = zX8_sizeOf_31 := rfl
set_option maxRecDepth 100000 in
theorem kX8_sizeOf_43 : az_seek (43 : Int).toNat (az_cd 207) = zX8_sizeOf_43 := rfl
set_option maxRecDepth 100000 in
theorem kX8_sizeOf_46 : az_seek (46 : Int).toNat (az_cd 207) = zX8_sizeOf_46 := rfl
set_option maxRecDepth 100000 in
theorem kX8_sizeOf_59 : az_seek (59 : Int).toNat (az_cd 207) = zX8_sizeOf_59 := rfl
set_option maxRecDepth 100000 in
theorem kX8_sizeOf_60 : az_seek (60 : Int).toNat (az_cd 207) = zX8_sizeOf_60 := rfl
set_option maxRecDepth 100000 in
theorem kX8_ask_18 : az_seek (18 : Int).toNat (az_cd 208) = zX8_ask_18 := rfl
set_option maxRecDepth 100000 in
theorem kX8_ask_21 : az_seek (21 : Int).toNat (az_cd 208) = zX8_ask_21 := rfl
set_option maxRecDepth 100000 in
theorem kX8_ask_52 : az_seek (52 : Int).toNat (az_cd 208) = zX8_ask_52 := rfl
set_option maxRecDepth 100000 in
theorem kX8_ask_64 : az_seek (64 : Int).toNat (az_cd 208) = zX8_ask_64 := rfl
set_option maxRecDepth 100000 in
theorem kX8_ask_67 : az_seek (67 : Int).toNat (az_cd 208) = zX8_ask_67 := rfl
set_option maxRecDepth 100000 in
theorem kX8_ask_98 : az_seek (98 : Int).toNat (az_cd 208) = zX8_ask_98 := rfl
set_option maxRecDepth 100000 in
theorem kX8_ask_100 : az_seek (100 : Int).toNat (az_cd 208) = zX8_ask_100 := rfl
set_option maxRecDepth 100000 in
theorem kX8_ask_101 : az_seek (101 : Int).toNat (az_cd 208) = zX8_ask_101 := rfl
set_option maxRecDepth 100000 in
theorem kX8_ask_111 : az_seek (111 : Int).toNat (az_cd 208) = zX8_ask_111 := rfl
set_option maxRecDepth 100000 in
theorem kX7_trace_26 : az_seek (26 : Int).toNat (az_cd 209) = zX7_trace_26 := rfl
set_option maxRecDepth 100000 in
theorem kX7_trace_29 : az_seek (29 : Int).toNat (az_cd 209) = zX7_trace_29 := rfl
set_option maxRecDepth 100000 in
theorem kX8_trace_25 : az_seek (25 : Int).toNat (az_cd 210) = zX8_trace_25 := rfl
set_option maxRecDepth 100000 in
theorem kX8_trace_27 : az_seek (27 : Int).toNat (az_cd 210) = zX8_trace_27 := rfl
set_option maxRecDepth 100000 in
theorem kX7_countRows_4 : az_seek (4 : Int).toNat (az_cd 211) = zX7_countRows_4 := rfl
set_option maxRecDepth 100000 in
theorem kX7_countRows_25 : az_seek (25 : Int).toNat (az_cd 211) = zX7_countRows_25 := rfl
set_option maxRecDepth 100000 in
theorem kX7_countRows_31 : az_seek (31 : Int).toNat (az_cd 211) = zX7_countRows_31 := rfl
set_option maxRecDepth 100000 in
theorem kX1_debtOfAll_4 : az_seek (4 : Int).toNat (az_cd 213) = zX1_debtOfAll_4 := rfl
set_option maxRecDepth 100000 in
theorem kX1_debtOfAll_27 : az_seek (27 : Int).toNat (az_cd 213) = zX1_debtOfAll_27 := rfl
set_option maxRecDepth 100000 in
theorem kX7_count_48 : az_seek (48 : Int).toNat (az_cd 214) = zX7_count_48 := rfl
set_option maxRecDepth 100000 in
theorem kX7_count_53 : az_seek (53 : Int).toNat (az_cd 214) = zX7_count_53 := rfl
set_option maxRecDepth 100000 in
theorem kX7_count_61 : az_seek (61 : Int).toNat (az_cd 214) = zX7_count_61 := rfl
set_option maxRecDepth 100000 in
theorem kX7_count_69 : az_seek (69 : Int).toNat (az_cd 214) = zX7_count_69 := rfl
set_option maxRecDepth 100000 in
theorem kX7_count_77 : az_seek (77 : Int).toNat (az_cd 214) = zX7_count_77 := rfl
set_option maxRecDepth 100000 in
theorem kX7_count_85 : az_seek (85 : Int).toNat (az_cd 214) = zX7_count_85 := rfl
set_option maxRecDepth 100000 in
theorem kX7_count_96 : az_seek (96 : Int).toNat (az_cd 214) = zX7_count_96 := rfl
set_option maxRecDepth 100000 in
theorem kX7_count_104 : az_seek (104 : Int).toNat (az_cd 214) = zX7_count_104 := rfl
set_option maxRecDepth 100000 in
theorem kX7_count_112 : az_seek (112 : Int).toNat (az_cd 214) = zX7_count_112 := rfl
set_option maxRecDepth 100000 in
theorem kX8_count_10 : az_seek (10 : Int).toNat (az_cd 215) = zX8_count_10 := rfl
set_option maxRecDepth 100000 in
theorem kX8_count_32 : az_seek (32 : Int).toNat (az_cd 215) = zX8_count_32 := rfl
set_option maxRecDepth 100000 in
theorem kX8_count_33 : az_seek (33 : Int).toNat (az_cd 215) = zX8_count_33 := rfl
set_option maxRecDepth 100000 in
theorem kX8_count_41 : az_seek (41 : Int).toNat (az_cd 215) = zX8_count_41 := rfl
set_option maxRecDepth 100000 in
theorem kX8_count_44 : az_seek (44 : Int).toNat (az_cd 215) = zX8_count_44 := rfl
set_option maxRecDepth 100000 in
theorem kX8_count_91 : az_seek (91 : Int).toNat (az_cd 215) = zX8_count_91 := rfl
set_option maxRecDepth 100000 in
theorem kX8_count_140 : az_seek (140 : Int).toNat (az_cd 215) = zX8_count_140 := rfl
set_option maxRecDepth 100000 in
theorem kX8_count_142 : az_seek (142 : Int).toNat (az_cd 215) = zX8_count_142 := rfl
set_option maxRecDepth 100000 in
theorem kX8_count_149 : az_seek (149 : Int).toNat (az_cd 215) = zX8_count_149 := rfl
set_option maxRecDepth 100000 in
theorem kX8_count_156 : az_seek (156 : Int).toNat (az_cd 215) = zX8_count_156 := rfl
set_option maxRecDepth 100000 in
theorem kX8_count_163 : az_seek (163 : Int).toNat (az_cd 215) = zX8_count_163 := rfl
set_option maxRecDepth 100000 in
theorem kX8_count_168 : az_seek (168 : Int).toNat (az_cd 215) = zX8_count_168 := rfl
set_option maxRecDepth 100000 in
theorem kX8_count_170 : az_seek (170 : Int).toNat (az_cd 215) = zX8_count_170 := rfl
set_option maxRecDepth 100000 in
theorem kX8_count_173 : az_seek (173 : Int).toNat (az_cd 215) = zX8_count_173 := rfl
set_option maxRecDepth 100000 in
theorem kX8_count_178 : az_seek (178 : Int).toNat (az_cd 215) = zX8_count_178 := rfl
set_option maxRecDepth 100000 in
theorem kL_law_18 : az_seek (18 : Int).toNat (az_cd 218) = zL_law_18 := rfl
set_option maxRecDepth 100000 in
theorem kL_law_184 : az_seek (184 : Int).toNat (az_cd 218) = zL_law_184 := rfl
set_option maxRecDepth 100000 in
theorem kL_law_227 : az_seek (227 : Int).toNat (az_cd 218) = zL_law_227 := rfl
set_option maxRecDepth 100000 in
theorem kL_law_270 : az_seek (270 : Int).toNat (az_cd 218) = zL_law_270 := rfl
set_option maxRecDepth 100000 in
theorem kL_law_333 : az_seek (333 : Int).toNat (az_cd 218) = zL_law_333 := rfl
set_option maxRecDepth 100000 in
theorem kL_law_356 : az_seek (356 : Int).toNat (az_cd 218) = zL_law_356 := rfl
set_option maxRecDepth 100000 in
theorem kL_law_419 : az_seek (419 : Int).toNat (az_cd 218) = zL_law_419 := rfl
set_option maxRecDepth 100000 in
theorem kL_law_432 : az_seek (432 : Int).toNat (az_cd 218) = zL_law_432 := rfl
set_option maxRecDepth 100000 in
theorem kL_law_445 : az_seek (445 : Int).toNat (az_cd 218) = zL_law_445 := rfl
set_option maxRecDepth 100000 in
theorem kL_law_458 : az_seek (458 : Int).toNat (az_cd 218) = zL_law_458 := rfl
set_option maxRecDepth 100000 in
theorem kL_law_481 : az_seek (481 : Int).toNat (az_cd 218) = zL_law_481 := rfl
set_option maxRecDepth 100000 in
theorem kL_law_504 : az_seek (504 : Int).toNat (az_cd 218) = zL_law_504 := rfl
set_option maxRecDepth 100000 in
theorem kL_law_537 : az_seek (537 : Int).toNat (az_cd 218) = zL_law_537 := rfl
set_option maxRecDepth 100000 in
theorem kL_law_570 : az_seek (570 : Int).toNat (az_cd 218) = zL_law_570 := rfl
set_option maxRecDepth 100000 in
theorem kL_law_583 : az_seek (583 : Int).toNat (az_cd 218) = zL_law_583 := rfl
set_option maxRecDepth 100000 in
theorem kL_law_596 : az_seek (596 : Int).toNat (az_cd 218) = zL_law_596 := rfl
set_option maxRecDepth 100000 in
theorem kL_law_629 : az_seek (629 : Int).toNat (az_cd 218) = zL_law_629 := rfl
set_option maxRecDepth 100000 in
theorem kL_law_652 : az_seek (652 : Int).toNat (az_cd 218) = zL_law_652 := rfl
set_option maxRecDepth 100000 in
theorem kL_law_695 : az_seek (695 : Int).toNat (az_cd 218) = zL_law_695 := rfl
set_option maxRecDepth 100000 in
theorem kL_law_728 : az_seek (728 : Int).toNat (az_cd 218) = zL_law_728 := rfl
set_option maxRecDepth 100000 in
theorem kL_law_761 : az_seek (761 : Int).toNat (az_cd 218) = zL_law_761 := rfl
set_option maxRecDepth 100000 in
theorem kL_law_784 : az_seek (784 : Int).toNat (az_cd 218) = zL_law_784 := rfl
set_option maxRecDepth 100000 in
theorem kL_law_837 : az_seek (837 : Int).toNat (az_cd 218) = zL_law_837 := rfl
set_option maxRecDepth 100000 in
theorem kL_law_880 : az_seek (880 : Int).toNat (az_cd 218) = zL_law_880 := rfl
set_option maxRecDepth 100000 in
theorem kL_law_913 : az_seek (913 : Int).toNat (az_cd 218) = zL_law_913 := rfl
set_option maxRecDepth 100000 in
theorem kL_law_946 : az_seek (946 : Int).toNat (az_cd 218) = zL_law_946 := rfl
set_option maxRecDepth 100000 in
theorem kL_law_979 : az_seek (979 : Int).toNat (az_cd 218) = zL_law_979 := rfl
set_option maxRecDepth 100000 in
theorem kL_law_1012 : az_seek (1012 : Int).toNat (az_cd 218) = zL_law_1012 := rfl
set_option maxRecDepth 100000 in
theorem kL_law_1035 : az_seek (1035 : Int).toNat (az_cd 218) = zL_law_1035 := rfl
set_option maxRecDepth 100000 in
theorem kL_law_1058 : az_seek (1058 : Int).toNat (az_cd 218) = zL_law_1058 := rfl
set_option maxRecDepth 100000 in
theorem kL_law_1081 : az_seek (1081 : Int).toNat (az_cd 218) = zL_law_1081 := rfl
set_option maxRecDepth 100000 in
theorem kL_law_1114 : az_seek (1114 : Int).toNat (az_cd 218) = zL_law_1114 := rfl
set_option maxRecDepth 100000 in
theorem kL_law_1147 : az_seek (1147 : Int).toNat (az_cd 218) = zL_law_1147 := rfl
set_option maxRecDepth 100000 in
theorem kL_law_1170 : az_seek (1170 : Int).toNat (az_cd 218) = zL_law_1170 := rfl
set_option maxRecDepth 100000 in
theorem kL_law_1193 : az_seek (1193 : Int).toNat (az_cd 218) = zL_law_1193 := rfl
set_option maxRecDepth 100000 in
theorem kL_law_1206 : az_seek (1206 : Int).toNat (az_cd 218) = zL_law_1206 := rfl
set_option maxRecDepth 100000 in
theorem kL_law_1212 : az_seek (1212 : Int).toNat (az_cd 218) = zL_law_1212 := rfl
