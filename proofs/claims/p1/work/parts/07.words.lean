theorem tw_0 : (Cond.selects "DarkRing" yX11_trayAt yX11_trayAt : Cond) ∈ TB := tb_mem 0 (by decide +kernel) rfl
theorem tw_1 : (Cond.selects "DarkRing" yX11_refused yX11_refused : Cond) ∈ TB := tb_mem 1 (by decide +kernel) rfl
theorem tw_2 : (Cond.selects "DarkRing" yX11_done yX11_done : Cond) ∈ TB := tb_mem 2 (by decide +kernel) rfl
theorem tw_4 : (Cond.selects "DarkRing" yX11_none yX11_none : Cond) ∈ TB := tb_mem 4 (by decide +kernel) rfl
theorem tw_5 : (Cond.selects "DarkRing$Text" yX8_byteAt yX8_byteAt : Cond) ∈ TB := tb_mem 5 (by decide +kernel) rfl
theorem tw_20 : (Cond.selects "DarkRing" yX11_told yX11_told : Cond) ∈ TB := tb_mem 20 (by decide +kernel) rfl
theorem tw_181 : (Cond.initialized "java/util/Arrays" : Cond) ∈ TB := tb_mem 181 (by decide +kernel) rfl
theorem tw_182 : (Cond.initialized "java/lang/System" : Cond) ∈ TB := tb_mem 182 (by decide +kernel) rfl
theorem tw_207 : (Cond.fieldLink "DarkRing" 174 "DarkRing$Text" "fed" "I" : Cond) ∈ TB := tb_mem 207 (by decide +kernel) rfl
theorem tw_208 : (Cond.fieldLink "DarkRing$Text" 25 "DarkRing$Text" "length" "I" : Cond) ∈ TB := tb_mem 208 (by decide +kernel) rfl
theorem tw_209 : (Cond.fieldLink "DarkRing$Text" 34 "DarkRing$Text" "kind" "I" : Cond) ∈ TB := tb_mem 209 (by decide +kernel) rfl
theorem tw_210 : (Cond.fieldLink "DarkRing$Text" 37 "DarkRing$Text" "start" "I" : Cond) ∈ TB := tb_mem 210 (by decide +kernel) rfl
theorem tw_211 : (Cond.fieldLink "DarkRing$Text" 28 "DarkRing$Text" "end" "I" : Cond) ∈ TB := tb_mem 211 (by decide +kernel) rfl
theorem tw_219 : (Cond.fieldLink "DarkRing$RuleReader" 46 "DarkRing$Text" "fault" "I" : Cond) ∈ TB := tb_mem 219 (by decide +kernel) rfl
theorem tw_220 : (Cond.fieldLink "DarkRing$HouseReader" 61 "DarkRing$Text" "fault" "I" : Cond) ∈ TB := tb_mem 220 (by decide +kernel) rfl
theorem tw_221 : (Cond.fieldLink "DarkRing" 207 "DarkRing$Text" "fault" "I" : Cond) ∈ TB := tb_mem 221 (by decide +kernel) rfl
theorem tw_223 : (Cond.fieldLink "DarkRing" 210 "DarkRing$Text" "faultPlace" "I" : Cond) ∈ TB := tb_mem 223 (by decide +kernel) rfl
theorem tw_269 : (Cond.fieldLink "DarkRing" 213 "DarkRing$House" "features" "I" : Cond) ∈ TB := tb_mem 269 (by decide +kernel) rfl
theorem tw_276 : (Cond.fieldLink "DarkRing" 192 "DarkRing$House" "keys" "I" : Cond) ∈ TB := tb_mem 276 (by decide +kernel) rfl
theorem tw_281 : (Cond.fieldLink "DarkRing" 216 "DarkRing$House" "rings" "I" : Cond) ∈ TB := tb_mem 281 (by decide +kernel) rfl
theorem tw_288 : (Cond.fieldLink "DarkRing" 219 "DarkRing$House" "doors" "I" : Cond) ∈ TB := tb_mem 288 (by decide +kernel) rfl
theorem tw_295 : (Cond.fieldLink "DarkRing" 228 "DarkRing$House" "turned" "I" : Cond) ∈ TB := tb_mem 295 (by decide +kernel) rfl
theorem tw_299 : (Cond.fieldLink "DarkRing" 222 "DarkRing$House" "roundMany" "I" : Cond) ∈ TB := tb_mem 299 (by decide +kernel) rfl
theorem tw_351 : (Cond.fieldLink "DarkRing" 231 "DarkRing$Thought" "held" "I" : Cond) ∈ TB := tb_mem 351 (by decide +kernel) rfl
theorem tw_383 : (Cond.fieldLink "DarkRing" 204 "DarkRing$Rule" "steps" "I" : Cond) ∈ TB := tb_mem 383 (by decide +kernel) rfl
theorem tw_418 : (Cond.fieldLink "DarkRing" 183 "DarkRing$HouseReader" "fresh" "LDarkRing$House;" : Cond) ∈ TB := tb_mem 418 (by decide +kernel) rfl
theorem tw_423 : (Cond.fieldLink "DarkRing$HouseReader" 38 "DarkRing$HouseReader" "keysOnRings" "I" : Cond) ∈ TB := tb_mem 423 (by decide +kernel) rfl
theorem tw_424 : (Cond.fieldLink "DarkRing$HouseReader" 42 "DarkRing$HouseReader" "feelsTold" "I" : Cond) ∈ TB := tb_mem 424 (by decide +kernel) rfl
theorem tw_425 : (Cond.fieldLink "DarkRing$HouseReader" 45 "DarkRing$HouseReader" "secondsTold" "Z" : Cond) ∈ TB := tb_mem 425 (by decide +kernel) rfl
theorem tw_426 : (Cond.fieldLink "DarkRing$HouseReader" 49 "DarkRing$HouseReader" "turnedTold" "Z" : Cond) ∈ TB := tb_mem 426 (by decide +kernel) rfl
theorem tw_459 : (Cond.fieldLink "DarkRing" 199 "DarkRing$RuleReader" "fresh" "LDarkRing$Rule;" : Cond) ∈ TB := tb_mem 459 (by decide +kernel) rfl
theorem tw_461 : (Cond.fieldLink "DarkRing$RuleReader" 33 "DarkRing$RuleReader" "depth" "I" : Cond) ∈ TB := tb_mem 461 (by decide +kernel) rfl
theorem tw_485 : (Cond.fieldLink "DarkRing" 403 "DarkRing$Search" "foundMany" "I" : Cond) ∈ TB := tb_mem 485 (by decide +kernel) rfl
theorem tw_594 : (Cond.fieldLink "DarkRing" 444 "DarkRing$Game" "isKept" "Z" : Cond) ∈ TB := tb_mem 594 (by decide +kernel) rfl
theorem tw_727 : (Cond.methodLink "DarkRing" 122 yX11_trayAt : Cond) ∈ TB := tb_mem 727 (by decide +kernel) rfl
theorem tw_729 : (Cond.instanceMethod yX11_trayAt : Cond) ∈ TB := tb_mem 729 (by decide +kernel) rfl
theorem tw_730 : (Cond.code yX11_trayAt cX11_trayAt 2 (some (.object "DarkRing$Tray")) : Cond) ∈ TB := tb_mem 730 (by decide +kernel) rfl
theorem tw_731 : (Cond.methodLink "DarkRing" 126 yX11_refused : Cond) ∈ TB := tb_mem 731 (by decide +kernel) rfl
theorem tw_733 : (Cond.instanceMethod yX11_refused : Cond) ∈ TB := tb_mem 733 (by decide +kernel) rfl
theorem tw_734 : (Cond.code yX11_refused cX11_refused 2 (some .boolean) : Cond) ∈ TB := tb_mem 734 (by decide +kernel) rfl
theorem tw_735 : (Cond.methodLink "DarkRing" 130 yX10_fresh : Cond) ∈ TB := tb_mem 735 (by decide +kernel) rfl
theorem tw_736 : (Cond.instanceMethod yX10_fresh : Cond) ∈ TB := tb_mem 736 (by decide +kernel) rfl
theorem tw_737 : (Cond.selects "DarkRing$Tray" yX10_fresh yX10_fresh : Cond) ∈ TB := tb_mem 737 (by decide +kernel) rfl
theorem tw_738 : (Cond.code yX10_fresh cX10_fresh 3 none : Cond) ∈ TB := tb_mem 738 (by decide +kernel) rfl
theorem tw_739 : (Cond.methodLink "DarkRing$Tray" 22 yJ7_fill_d0a16 : Cond) ∈ TB := tb_mem 739 (by decide +kernel) rfl
theorem tw_740 : (Cond.static yJ7_fill_d0a16 : Cond) ∈ TB := tb_mem 740 (by decide +kernel) rfl
theorem tw_741 : (Cond.code yJ7_fill_d0a16 cJ7_fill_d0a16 5 none : Cond) ∈ TB := tb_mem 741 (by decide +kernel) rfl
theorem tw_742 : (Cond.methodLink "DarkRing" 134 yX11_done : Cond) ∈ TB := tb_mem 742 (by decide +kernel) rfl
theorem tw_744 : (Cond.instanceMethod yX11_done : Cond) ∈ TB := tb_mem 744 (by decide +kernel) rfl
theorem tw_745 : (Cond.code yX11_done cX11_done 1 (some .boolean) : Cond) ∈ TB := tb_mem 745 (by decide +kernel) rfl
theorem tw_750 : (Cond.methodLink "DarkRing" 138 yX10_isMissing : Cond) ∈ TB := tb_mem 750 (by decide +kernel) rfl
theorem tw_751 : (Cond.instanceMethod yX10_isMissing : Cond) ∈ TB := tb_mem 751 (by decide +kernel) rfl
theorem tw_752 : (Cond.selects "DarkRing$Tray" yX10_isMissing yX10_isMissing : Cond) ∈ TB := tb_mem 752 (by decide +kernel) rfl
theorem tw_753 : (Cond.code yX10_isMissing cX10_isMissing 1 (some .boolean) : Cond) ∈ TB := tb_mem 753 (by decide +kernel) rfl
theorem tw_773 : (Cond.methodLink "DarkRing" 148 yX11_none : Cond) ∈ TB := tb_mem 773 (by decide +kernel) rfl
theorem tw_775 : (Cond.instanceMethod yX11_none : Cond) ∈ TB := tb_mem 775 (by decide +kernel) rfl
theorem tw_776 : (Cond.code yX11_none cX11_none 2 (some .int) : Cond) ∈ TB := tb_mem 776 (by decide +kernel) rfl
theorem tw_798 : (Cond.static arraycopyName : Cond) ∈ TB := tb_mem 798 (by decide +kernel) rfl
theorem tw_799 : (Cond.native arraycopyName : Cond) ∈ TB := tb_mem 799 (by decide +kernel) rfl
theorem tw_804 : (Cond.methodLink "DarkRing" 167 yX8_hasRoom : Cond) ∈ TB := tb_mem 804 (by decide +kernel) rfl
theorem tw_805 : (Cond.instanceMethod yX8_hasRoom : Cond) ∈ TB := tb_mem 805 (by decide +kernel) rfl
theorem tw_806 : (Cond.selects "DarkRing$Text" yX8_hasRoom yX8_hasRoom : Cond) ∈ TB := tb_mem 806 (by decide +kernel) rfl
theorem tw_807 : (Cond.code yX8_hasRoom cX8_hasRoom 2 (some .boolean) : Cond) ∈ TB := tb_mem 807 (by decide +kernel) rfl
theorem tw_808 : (Cond.methodLink "DarkRing" 170 yX8_append : Cond) ∈ TB := tb_mem 808 (by decide +kernel) rfl
theorem tw_809 : (Cond.instanceMethod yX8_append : Cond) ∈ TB := tb_mem 809 (by decide +kernel) rfl
theorem tw_810 : (Cond.selects "DarkRing$Text" yX8_append yX8_append : Cond) ∈ TB := tb_mem 810 (by decide +kernel) rfl
theorem tw_811 : (Cond.code yX8_append cX8_append 3 none : Cond) ∈ TB := tb_mem 811 (by decide +kernel) rfl
theorem tw_816 : (Cond.methodLink "DarkRing" 177 yX8_begin : Cond) ∈ TB := tb_mem 816 (by decide +kernel) rfl
theorem tw_817 : (Cond.instanceMethod yX8_begin : Cond) ∈ TB := tb_mem 817 (by decide +kernel) rfl
theorem tw_818 : (Cond.selects "DarkRing$Text" yX8_begin yX8_begin : Cond) ∈ TB := tb_mem 818 (by decide +kernel) rfl
theorem tw_819 : (Cond.code yX8_begin cX8_begin 2 none : Cond) ∈ TB := tb_mem 819 (by decide +kernel) rfl
theorem tw_820 : (Cond.methodLink "DarkRing$Text" 31 yX8_advance : Cond) ∈ TB := tb_mem 820 (by decide +kernel) rfl
theorem tw_821 : (Cond.instanceMethod yX8_advance : Cond) ∈ TB := tb_mem 821 (by decide +kernel) rfl
theorem tw_822 : (Cond.selects "DarkRing$Text" yX8_advance yX8_advance : Cond) ∈ TB := tb_mem 822 (by decide +kernel) rfl
theorem tw_823 : (Cond.code yX8_advance cX8_advance 2 none : Cond) ∈ TB := tb_mem 823 (by decide +kernel) rfl
theorem tw_824 : (Cond.methodLink "DarkRing$Text" 40 yX8_byteAt : Cond) ∈ TB := tb_mem 824 (by decide +kernel) rfl
theorem tw_826 : (Cond.instanceMethod yX8_byteAt : Cond) ∈ TB := tb_mem 826 (by decide +kernel) rfl
theorem tw_827 : (Cond.code yX8_byteAt cX8_byteAt 2 (some .int) : Cond) ∈ TB := tb_mem 827 (by decide +kernel) rfl
theorem tw_850 : (Cond.methodLink "DarkRing" 180 yX3_readAll : Cond) ∈ TB := tb_mem 850 (by decide +kernel) rfl
theorem tw_851 : (Cond.instanceMethod yX3_readAll : Cond) ∈ TB := tb_mem 851 (by decide +kernel) rfl
theorem tw_852 : (Cond.selects "DarkRing$HouseReader" yX3_readAll yX3_readAll : Cond) ∈ TB := tb_mem 852 (by decide +kernel) rfl
theorem tw_853 : (Cond.code yX3_readAll cX3_readAll 2 (some .boolean) : Cond) ∈ TB := tb_mem 853 (by decide +kernel) rfl
theorem tw_854 : (Cond.methodLink "DarkRing$HouseReader" 35 yX2_clear : Cond) ∈ TB := tb_mem 854 (by decide +kernel) rfl
theorem tw_855 : (Cond.methodLink "DarkRing$HouseReader" 54 yX8_goesOn : Cond) ∈ TB := tb_mem 855 (by decide +kernel) rfl
theorem tw_856 : (Cond.instanceMethod yX8_goesOn : Cond) ∈ TB := tb_mem 856 (by decide +kernel) rfl
theorem tw_857 : (Cond.selects "DarkRing$Text" yX8_goesOn yX8_goesOn : Cond) ∈ TB := tb_mem 857 (by decide +kernel) rfl
theorem tw_858 : (Cond.code yX8_goesOn cX8_goesOn 1 (some .boolean) : Cond) ∈ TB := tb_mem 858 (by decide +kernel) rfl
theorem tw_1040 : (Cond.instanceMethod yX2_hasRing : Cond) ∈ TB := tb_mem 1040 (by decide +kernel) rfl
theorem tw_1041 : (Cond.selects "DarkRing$House" yX2_hasRing yX2_hasRing : Cond) ∈ TB := tb_mem 1041 (by decide +kernel) rfl
theorem tw_1042 : (Cond.code yX2_hasRing cX2_hasRing 2 (some .boolean) : Cond) ∈ TB := tb_mem 1042 (by decide +kernel) rfl
theorem tw_1067 : (Cond.instanceMethod yX2_hasDoor : Cond) ∈ TB := tb_mem 1067 (by decide +kernel) rfl
theorem tw_1068 : (Cond.selects "DarkRing$House" yX2_hasDoor yX2_hasDoor : Cond) ∈ TB := tb_mem 1068 (by decide +kernel) rfl
theorem tw_1069 : (Cond.code yX2_hasDoor cX2_hasDoor 2 (some .boolean) : Cond) ∈ TB := tb_mem 1069 (by decide +kernel) rfl
theorem tw_1071 : (Cond.instanceMethod yX2_hasKey : Cond) ∈ TB := tb_mem 1071 (by decide +kernel) rfl
theorem tw_1072 : (Cond.selects "DarkRing$House" yX2_hasKey yX2_hasKey : Cond) ∈ TB := tb_mem 1072 (by decide +kernel) rfl
theorem tw_1073 : (Cond.code yX2_hasKey cX2_hasKey 2 (some .boolean) : Cond) ∈ TB := tb_mem 1073 (by decide +kernel) rfl
theorem tw_1108 : (Cond.methodLink "DarkRing" 185 yX2_copy : Cond) ∈ TB := tb_mem 1108 (by decide +kernel) rfl
theorem tw_1109 : (Cond.static yX2_copy : Cond) ∈ TB := tb_mem 1109 (by decide +kernel) rfl
theorem tw_1110 : (Cond.code yX2_copy cX2_copy 2 none : Cond) ∈ TB := tb_mem 1110 (by decide +kernel) rfl
theorem tw_1111 : (Cond.methodLink "DarkRing$House" 75 arraycopyName : Cond) ∈ TB := tb_mem 1111 (by decide +kernel) rfl
theorem tw_1112 : (Cond.methodLink "DarkRing" 189 yX9_letGo : Cond) ∈ TB := tb_mem 1112 (by decide +kernel) rfl
theorem tw_1113 : (Cond.instanceMethod yX9_letGo : Cond) ∈ TB := tb_mem 1113 (by decide +kernel) rfl
theorem tw_1114 : (Cond.selects "DarkRing$Thought" yX9_letGo yX9_letGo : Cond) ∈ TB := tb_mem 1114 (by decide +kernel) rfl
theorem tw_1115 : (Cond.code yX9_letGo cX9_letGo 1 none : Cond) ∈ TB := tb_mem 1115 (by decide +kernel) rfl
theorem tw_1116 : (Cond.methodLink "DarkRing" 195 yX11_told : Cond) ∈ TB := tb_mem 1116 (by decide +kernel) rfl
theorem tw_1118 : (Cond.instanceMethod yX11_told : Cond) ∈ TB := tb_mem 1118 (by decide +kernel) rfl
theorem tw_1119 : (Cond.code yX11_told cX11_told 2 (some .int) : Cond) ∈ TB := tb_mem 1119 (by decide +kernel) rfl
theorem tw_1124 : (Cond.methodLink "DarkRing" 198 yX6_readAll : Cond) ∈ TB := tb_mem 1124 (by decide +kernel) rfl
theorem tw_1125 : (Cond.instanceMethod yX6_readAll : Cond) ∈ TB := tb_mem 1125 (by decide +kernel) rfl
theorem tw_1126 : (Cond.selects "DarkRing$RuleReader" yX6_readAll yX6_readAll : Cond) ∈ TB := tb_mem 1126 (by decide +kernel) rfl
theorem tw_1127 : (Cond.code yX6_readAll cX6_readAll 2 (some .boolean) : Cond) ∈ TB := tb_mem 1127 (by decide +kernel) rfl
theorem tw_1128 : (Cond.methodLink "DarkRing$RuleReader" 30 yX5_clear : Cond) ∈ TB := tb_mem 1128 (by decide +kernel) rfl
theorem tw_1129 : (Cond.instanceMethod yX5_clear : Cond) ∈ TB := tb_mem 1129 (by decide +kernel) rfl
theorem tw_1130 : (Cond.selects "DarkRing$Rule" yX5_clear yX5_clear : Cond) ∈ TB := tb_mem 1130 (by decide +kernel) rfl
theorem tw_1131 : (Cond.code yX5_clear cX5_clear 1 none : Cond) ∈ TB := tb_mem 1131 (by decide +kernel) rfl
theorem tw_1132 : (Cond.methodLink "DarkRing$RuleReader" 37 yX8_goesOn : Cond) ∈ TB := tb_mem 1132 (by decide +kernel) rfl
theorem tw_1204 : (Cond.methodLink "DarkRing" 201 yX5_copy : Cond) ∈ TB := tb_mem 1204 (by decide +kernel) rfl
theorem tw_1205 : (Cond.static yX5_copy : Cond) ∈ TB := tb_mem 1205 (by decide +kernel) rfl
theorem tw_1206 : (Cond.code yX5_copy cX5_copy 2 none : Cond) ∈ TB := tb_mem 1206 (by decide +kernel) rfl
theorem tw_1207 : (Cond.methodLink "DarkRing$Rule" 38 arraycopyName : Cond) ∈ TB := tb_mem 1207 (by decide +kernel) rfl
theorem tw_1216 : (Cond.methodLink "DarkRing" 225 yX2_secondsOf : Cond) ∈ TB := tb_mem 1216 (by decide +kernel) rfl
theorem tw_1217 : (Cond.instanceMethod yX2_secondsOf : Cond) ∈ TB := tb_mem 1217 (by decide +kernel) rfl
theorem tw_1218 : (Cond.selects "DarkRing$House" yX2_secondsOf yX2_secondsOf : Cond) ∈ TB := tb_mem 1218 (by decide +kernel) rfl
theorem tw_1219 : (Cond.code yX2_secondsOf cX2_secondsOf 2 (some .int) : Cond) ∈ TB := tb_mem 1219 (by decide +kernel) rfl
theorem tw_1224 : (Cond.methodLink "DarkRing" 234 yX2_hasFeature : Cond) ∈ TB := tb_mem 1224 (by decide +kernel) rfl
theorem tw_1234 : (Cond.methodLink "DarkRing" 243 yX2_hasStep : Cond) ∈ TB := tb_mem 1234 (by decide +kernel) rfl
theorem tw_1235 : (Cond.instanceMethod yX2_hasStep : Cond) ∈ TB := tb_mem 1235 (by decide +kernel) rfl
theorem tw_1236 : (Cond.selects "DarkRing$House" yX2_hasStep yX2_hasStep : Cond) ∈ TB := tb_mem 1236 (by decide +kernel) rfl
theorem tw_1237 : (Cond.code yX2_hasStep cX2_hasStep 3 (some .boolean) : Cond) ∈ TB := tb_mem 1237 (by decide +kernel) rfl
theorem tw_1247 : (Cond.methodLink "DarkRing" 250 yX2_hasKey : Cond) ∈ TB := tb_mem 1247 (by decide +kernel) rfl
theorem tw_1273 : (Cond.methodLink "DarkRing" 266 yX2_hasRing : Cond) ∈ TB := tb_mem 1273 (by decide +kernel) rfl
theorem tw_1287 : (Cond.methodLink "DarkRing" 275 yX2_hasDoor : Cond) ∈ TB := tb_mem 1287 (by decide +kernel) rfl
theorem tw_1370 : (Cond.methodLink "DarkRing" 320 yX9_isHeld : Cond) ∈ TB := tb_mem 1370 (by decide +kernel) rfl
theorem tw_1371 : (Cond.instanceMethod yX9_isHeld : Cond) ∈ TB := tb_mem 1371 (by decide +kernel) rfl
theorem tw_1372 : (Cond.selects "DarkRing$Thought" yX9_isHeld yX9_isHeld : Cond) ∈ TB := tb_mem 1372 (by decide +kernel) rfl
theorem tw_1373 : (Cond.code yX9_isHeld cX9_isHeld 1 (some .boolean) : Cond) ∈ TB := tb_mem 1373 (by decide +kernel) rfl
theorem tw_1419 : (Cond.methodLink "DarkRing$Thought" 33 arraycopyName : Cond) ∈ TB := tb_mem 1419 (by decide +kernel) rfl
theorem tw_1852 : (Cond.methodLink "DarkRing" 441 yX1_hasKept : Cond) ∈ TB := tb_mem 1852 (by decide +kernel) rfl
theorem tw_1853 : (Cond.instanceMethod yX1_hasKept : Cond) ∈ TB := tb_mem 1853 (by decide +kernel) rfl
theorem tw_1854 : (Cond.selects "DarkRing$Game" yX1_hasKept yX1_hasKept : Cond) ∈ TB := tb_mem 1854 (by decide +kernel) rfl
theorem tw_1855 : (Cond.code yX1_hasKept cX1_hasKept 2 (some .boolean) : Cond) ∈ TB := tb_mem 1855 (by decide +kernel) rfl
theorem tw_1868 : (Cond.methodLink "DarkRing" 453 yX9_copy : Cond) ∈ TB := tb_mem 1868 (by decide +kernel) rfl
theorem tw_1869 : (Cond.static yX9_copy : Cond) ∈ TB := tb_mem 1869 (by decide +kernel) rfl
theorem tw_1870 : (Cond.code yX9_copy cX9_copy 2 none : Cond) ∈ TB := tb_mem 1870 (by decide +kernel) rfl
theorem dJ7_fill_d0a16_0 : decode cJ7_fill_d0a16 0 = .ok (.iconst 0, 1) := by decide +kernel
theorem dJ7_fill_d0a16_1 : decode cJ7_fill_d0a16 1 = .ok (.istore_n 3, 1) := by decide +kernel
theorem dJ7_fill_d0a16_2 : decode cJ7_fill_d0a16 2 = .ok (.aload_n 0, 1) := by decide +kernel
theorem dJ7_fill_d0a16_3 : decode cJ7_fill_d0a16 3 = .ok (.arraylength, 1) := by decide +kernel
theorem dJ7_fill_d0a16_4 : decode cJ7_fill_d0a16 4 = .ok (.istore 4, 2) := by decide +kernel
theorem dJ7_fill_d0a16_6 : decode cJ7_fill_d0a16 6 = .ok (.iload_n 3, 1) := by decide +kernel
theorem dJ7_fill_d0a16_7 : decode cJ7_fill_d0a16 7 = .ok (.iload 4, 2) := by decide +kernel
theorem dJ7_fill_d0a16_9 : decode cJ7_fill_d0a16 9 = .ok (.if_icmp .ge 13, 3) := by decide +kernel
theorem dJ7_fill_d0a16_12 : decode cJ7_fill_d0a16 12 = .ok (.aload_n 0, 1) := by decide +kernel
theorem dJ7_fill_d0a16_13 : decode cJ7_fill_d0a16 13 = .ok (.iload_n 3, 1) := by decide +kernel
theorem dJ7_fill_d0a16_14 : decode cJ7_fill_d0a16 14 = .ok (.lload_n 1, 1) := by decide +kernel
theorem dJ7_fill_d0a16_15 : decode cJ7_fill_d0a16 15 = .ok (.lastore, 1) := by decide +kernel
theorem dJ7_fill_d0a16_16 : decode cJ7_fill_d0a16 16 = .ok (.iinc 3 1, 3) := by decide +kernel
theorem dJ7_fill_d0a16_19 : decode cJ7_fill_d0a16 19 = .ok (.goto (-13), 3) := by decide +kernel
theorem dJ7_fill_d0a16_22 : decode cJ7_fill_d0a16 22 = .ok (.return_, 1) := by decide +kernel
theorem dX10_fresh_0 : decode cX10_fresh 0 = .ok (.aload_n 0, 1) := by decide +kernel
theorem dX10_fresh_1 : decode cX10_fresh 1 = .ok (.iload_n 1, 1) := by decide +kernel
theorem dX10_fresh_2 : decode cX10_fresh 2 = .ok (.putfield 9, 3) := by decide +kernel
theorem dX10_fresh_5 : decode cX10_fresh 5 = .ok (.aload_n 0, 1) := by decide +kernel
theorem dX10_fresh_6 : decode cX10_fresh 6 = .ok (.iload_n 2, 1) := by decide +kernel
theorem dX10_fresh_7 : decode cX10_fresh 7 = .ok (.putfield 15, 3) := by decide +kernel
theorem dX10_fresh_10 : decode cX10_fresh 10 = .ok (.aload_n 0, 1) := by decide +kernel
theorem dX10_fresh_11 : decode cX10_fresh 11 = .ok (.getfield 18, 3) := by decide +kernel
theorem dX10_fresh_14 : decode cX10_fresh 14 = .ok (.lconst 0, 1) := by decide +kernel
theorem dX10_fresh_15 : decode cX10_fresh 15 = .ok (.invokestatic 22, 3) := by decide +kernel
theorem dX10_fresh_18 : decode cX10_fresh 18 = .ok (.return_, 1) := by decide +kernel
theorem dX10_isMissing_0 : decode cX10_isMissing 0 = .ok (.aload_n 0, 1) := by decide +kernel
theorem dX10_isMissing_1 : decode cX10_isMissing 1 = .ok (.getfield 15, 3) := by decide +kernel
theorem dX10_isMissing_4 : decode cX10_isMissing 4 = .ok (.iconst (-1), 1) := by decide +kernel
theorem dX10_isMissing_5 : decode cX10_isMissing 5 = .ok (.if_icmp .ne 7, 3) := by decide +kernel
theorem dX10_isMissing_8 : decode cX10_isMissing 8 = .ok (.iconst 1, 1) := by decide +kernel
theorem dX10_isMissing_9 : decode cX10_isMissing 9 = .ok (.goto 4, 3) := by decide +kernel
theorem dX10_isMissing_13 : decode cX10_isMissing 13 = .ok (.ireturn, 1) := by decide +kernel
theorem dX11_alike_0 : decode cX11_alike 0 = .ok (.aload_n 0, 1) := by decide +kernel
theorem dX11_alike_1 : decode cX11_alike 1 = .ok (.getfield 36, 3) := by decide +kernel
theorem dX11_alike_4 : decode cX11_alike 4 = .ok (.iload_n 1, 1) := by decide +kernel
theorem dX11_alike_5 : decode cX11_alike 5 = .ok (.invokevirtual 266, 3) := by decide +kernel
theorem dX11_alike_8 : decode cX11_alike 8 = .ok (.ifCond .ne 9, 3) := by decide +kernel
theorem dX11_alike_11 : decode cX11_alike 11 = .ok (.aload_n 0, 1) := by decide +kernel
theorem dX11_alike_12 : decode cX11_alike 12 = .ok (.iconst 2, 1) := by decide +kernel
theorem dX11_alike_13 : decode cX11_alike 13 = .ok (.invokevirtual 148, 3) := by decide +kernel
theorem dX11_alike_16 : decode cX11_alike 16 = .ok (.ireturn, 1) := by decide +kernel
theorem dX11_anywhere_0 : decode cX11_anywhere 0 = .ok (.aload_n 0, 1) := by decide +kernel
theorem dX11_anywhere_1 : decode cX11_anywhere 1 = .ok (.getfield 36, 3) := by decide +kernel
theorem dX11_anywhere_4 : decode cX11_anywhere 4 = .ok (.iload_n 1, 1) := by decide +kernel
theorem dX11_anywhere_5 : decode cX11_anywhere 5 = .ok (.invokevirtual 266, 3) := by decide +kernel
theorem dX11_anywhere_8 : decode cX11_anywhere 8 = .ok (.ifCond .ne 9, 3) := by decide +kernel
theorem dX11_anywhere_11 : decode cX11_anywhere 11 = .ok (.aload_n 0, 1) := by decide +kernel
theorem dX11_anywhere_12 : decode cX11_anywhere 12 = .ok (.iconst 2, 1) := by decide +kernel
theorem dX11_anywhere_13 : decode cX11_anywhere 13 = .ok (.invokevirtual 126, 3) := by decide +kernel
theorem dX11_anywhere_16 : decode cX11_anywhere 16 = .ok (.ireturn, 1) := by decide +kernel
theorem dX11_apart_0 : decode cX11_apart 0 = .ok (.aload_n 0, 1) := by decide +kernel
theorem dX11_apart_1 : decode cX11_apart 1 = .ok (.getfield 36, 3) := by decide +kernel
theorem dX11_apart_4 : decode cX11_apart 4 = .ok (.iload_n 1, 1) := by decide +kernel
theorem dX11_apart_5 : decode cX11_apart 5 = .ok (.invokevirtual 266, 3) := by decide +kernel
theorem dX11_apart_8 : decode cX11_apart 8 = .ok (.ifCond .ne 9, 3) := by decide +kernel
theorem dX11_apart_11 : decode cX11_apart 11 = .ok (.aload_n 0, 1) := by decide +kernel
theorem dX11_apart_12 : decode cX11_apart 12 = .ok (.iconst 2, 1) := by decide +kernel
theorem dX11_apart_13 : decode cX11_apart 13 = .ok (.invokevirtual 148, 3) := by decide +kernel
theorem dX11_apart_16 : decode cX11_apart 16 = .ok (.ireturn, 1) := by decide +kernel
theorem dX11_back_0 : decode cX11_back 0 = .ok (.aload_n 0, 1) := by decide +kernel
theorem dX11_back_1 : decode cX11_back 1 = .ok (.getfield 106, 3) := by decide +kernel
theorem dX11_back_4 : decode cX11_back 4 = .ok (.iconst 1, 1) := by decide +kernel
theorem dX11_back_5 : decode cX11_back 5 = .ok (.if_icmp .lt 11, 3) := by decide +kernel
theorem dX11_back_16 : decode cX11_back 16 = .ok (.aload_n 0, 1) := by decide +kernel
theorem dX11_back_17 : decode cX11_back 17 = .ok (.bipush 8, 2) := by decide +kernel
theorem dX11_back_19 : decode cX11_back 19 = .ok (.invokevirtual 148, 3) := by decide +kernel
theorem dX11_back_22 : decode cX11_back 22 = .ok (.ireturn, 1) := by decide +kernel
theorem dX11_bottom_0 : decode cX11_bottom 0 = .ok (.aload_n 0, 1) := by decide +kernel
theorem dX11_bottom_1 : decode cX11_bottom 1 = .ok (.getfield 17, 3) := by decide +kernel
theorem dX11_bottom_4 : decode cX11_bottom 4 = .ok (.lreturn, 1) := by decide +kernel
theorem dX11_door_0 : decode cX11_door 0 = .ok (.aload_n 0, 1) := by decide +kernel
theorem dX11_door_1 : decode cX11_door 1 = .ok (.getfield 36, 3) := by decide +kernel
theorem dX11_door_4 : decode cX11_door 4 = .ok (.iload_n 1, 1) := by decide +kernel
theorem dX11_door_5 : decode cX11_door 5 = .ok (.invokevirtual 275, 3) := by decide +kernel
theorem dX11_door_8 : decode cX11_door 8 = .ok (.ifCond .ne 9, 3) := by decide +kernel
theorem dX11_door_11 : decode cX11_door 11 = .ok (.aload_n 0, 1) := by decide +kernel
theorem dX11_door_12 : decode cX11_door 12 = .ok (.iconst 2, 1) := by decide +kernel
theorem dX11_door_13 : decode cX11_door 13 = .ok (.invokevirtual 148, 3) := by decide +kernel
theorem dX11_door_16 : decode cX11_door 16 = .ok (.ireturn, 1) := by decide +kernel
theorem dX11_fault_0 : decode cX11_fault 0 = .ok (.iload_n 1, 1) := by decide +kernel
theorem dX11_fault_1 : decode cX11_fault 1 = .ok (.ifCond .ne 11, 3) := by decide +kernel
theorem dX11_fault_4 : decode cX11_fault 4 = .ok (.aload_n 0, 1) := by decide +kernel
theorem dX11_fault_5 : decode cX11_fault 5 = .ok (.getfield 29, 3) := by decide +kernel
theorem dX11_fault_8 : decode cX11_fault 8 = .ok (.getfield 207, 3) := by decide +kernel
theorem dX11_fault_11 : decode cX11_fault 11 = .ok (.ireturn, 1) := by decide +kernel
theorem dX11_fault_12 : decode cX11_fault 12 = .ok (.iload_n 1, 1) := by decide +kernel
theorem dX11_fault_13 : decode cX11_fault 13 = .ok (.iconst 1, 1) := by decide +kernel
theorem dX11_fault_14 : decode cX11_fault 14 = .ok (.if_icmp .ne 11, 3) := by decide +kernel
theorem dX11_fault_17 : decode cX11_fault 17 = .ok (.aload_n 0, 1) := by decide +kernel
theorem dX11_fault_18 : decode cX11_fault 18 = .ok (.getfield 29, 3) := by decide +kernel
theorem dX11_fault_21 : decode cX11_fault 21 = .ok (.getfield 210, 3) := by decide +kernel
theorem dX11_fault_24 : decode cX11_fault 24 = .ok (.ireturn, 1) := by decide +kernel
theorem dX11_fault_25 : decode cX11_fault 25 = .ok (.iconst (-1), 1) := by decide +kernel
theorem dX11_fault_26 : decode cX11_fault 26 = .ok (.ireturn, 1) := by decide +kernel
theorem dX11_feature_0 : decode cX11_feature 0 = .ok (.aload_n 0, 1) := by decide +kernel
theorem dX11_feature_1 : decode cX11_feature 1 = .ok (.getfield 36, 3) := by decide +kernel
theorem dX11_feature_4 : decode cX11_feature 4 = .ok (.iload_n 1, 1) := by decide +kernel
theorem dX11_feature_5 : decode cX11_feature 5 = .ok (.invokevirtual 234, 3) := by decide +kernel
theorem dX11_feature_8 : decode cX11_feature 8 = .ok (.ifCond .ne 9, 3) := by decide +kernel
theorem dX11_feature_11 : decode cX11_feature 11 = .ok (.aload_n 0, 1) := by decide +kernel
theorem dX11_feature_12 : decode cX11_feature 12 = .ok (.iconst 2, 1) := by decide +kernel
theorem dX11_feature_13 : decode cX11_feature 13 = .ok (.invokevirtual 148, 3) := by decide +kernel
theorem dX11_feature_16 : decode cX11_feature 16 = .ok (.ireturn, 1) := by decide +kernel
theorem dX11_feed_0 : decode cX11_feed 0 = .ok (.aload_n 0, 1) := by decide +kernel
theorem dX11_feed_1 : decode cX11_feed 1 = .ok (.getfield 29, 3) := by decide +kernel
theorem dX11_feed_4 : decode cX11_feed 4 = .ok (.bipush 20, 2) := by decide +kernel
theorem dX11_feed_6 : decode cX11_feed 6 = .ok (.invokevirtual 167, 3) := by decide +kernel
theorem dX11_feed_9 : decode cX11_feed 9 = .ok (.ifCond .ne 5, 3) := by decide +kernel
theorem dX11_feed_14 : decode cX11_feed 14 = .ok (.aload_n 0, 1) := by decide +kernel
theorem dX11_feed_15 : decode cX11_feed 15 = .ok (.getfield 29, 3) := by decide +kernel
theorem dX11_feed_18 : decode cX11_feed 18 = .ok (.iload_n 1, 1) := by decide +kernel
theorem dX11_feed_19 : decode cX11_feed 19 = .ok (.invokevirtual 170, 3) := by decide +kernel
theorem dX11_feed_22 : decode cX11_feed 22 = .ok (.aload_n 0, 1) := by decide +kernel
theorem dX11_feed_23 : decode cX11_feed 23 = .ok (.getfield 29, 3) := by decide +kernel
theorem dX11_feed_26 : decode cX11_feed 26 = .ok (.iload_n 2, 1) := by decide +kernel
theorem dX11_feed_27 : decode cX11_feed 27 = .ok (.invokevirtual 170, 3) := by decide +kernel
theorem dX11_feed_30 : decode cX11_feed 30 = .ok (.aload_n 0, 1) := by decide +kernel
theorem dX11_feed_31 : decode cX11_feed 31 = .ok (.getfield 29, 3) := by decide +kernel
theorem dX11_feed_34 : decode cX11_feed 34 = .ok (.iload_n 3, 1) := by decide +kernel
theorem dX11_feed_35 : decode cX11_feed 35 = .ok (.invokevirtual 170, 3) := by decide +kernel
theorem dX11_feed_38 : decode cX11_feed 38 = .ok (.aload_n 0, 1) := by decide +kernel
theorem dX11_feed_39 : decode cX11_feed 39 = .ok (.getfield 29, 3) := by decide +kernel
theorem dX11_feed_42 : decode cX11_feed 42 = .ok (.iload 4, 2) := by decide +kernel
theorem dX11_feed_44 : decode cX11_feed 44 = .ok (.invokevirtual 170, 3) := by decide +kernel
theorem dX11_feed_47 : decode cX11_feed 47 = .ok (.aload_n 0, 1) := by decide +kernel
theorem dX11_feed_48 : decode cX11_feed 48 = .ok (.getfield 29, 3) := by decide +kernel
theorem dX11_feed_51 : decode cX11_feed 51 = .ok (.iload 5, 2) := by decide +kernel
theorem dX11_feed_53 : decode cX11_feed 53 = .ok (.invokevirtual 170, 3) := by decide +kernel
theorem dX11_feed_56 : decode cX11_feed 56 = .ok (.aload_n 0, 1) := by decide +kernel
theorem dX11_feed_57 : decode cX11_feed 57 = .ok (.getfield 29, 3) := by decide +kernel
theorem dX11_feed_60 : decode cX11_feed 60 = .ok (.getfield 174, 3) := by decide +kernel
theorem dX11_feed_63 : decode cX11_feed 63 = .ok (.ireturn, 1) := by decide +kernel
theorem dX11_feel_0 : decode cX11_feel 0 = .ok (.aload_n 0, 1) := by decide +kernel
theorem dX11_feel_1 : decode cX11_feel 1 = .ok (.getfield 36, 3) := by decide +kernel
theorem dX11_feel_4 : decode cX11_feel 4 = .ok (.iload_n 1, 1) := by decide +kernel
theorem dX11_feel_5 : decode cX11_feel 5 = .ok (.iload_n 2, 1) := by decide +kernel
theorem dX11_feel_6 : decode cX11_feel 6 = .ok (.invokevirtual 243, 3) := by decide +kernel
theorem dX11_feel_9 : decode cX11_feel 9 = .ok (.ifCond .ne 9, 3) := by decide +kernel
theorem dX11_feel_12 : decode cX11_feel 12 = .ok (.aload_n 0, 1) := by decide +kernel
theorem dX11_feel_13 : decode cX11_feel 13 = .ok (.iconst 2, 1) := by decide +kernel
theorem dX11_feel_14 : decode cX11_feel 14 = .ok (.invokevirtual 126, 3) := by decide +kernel
theorem dX11_feel_17 : decode cX11_feel 17 = .ok (.ireturn, 1) := by decide +kernel
theorem dX11_feels_0 : decode cX11_feels 0 = .ok (.aload_n 0, 1) := by decide +kernel
theorem dX11_feels_1 : decode cX11_feels 1 = .ok (.getfield 36, 3) := by decide +kernel
theorem dX11_feels_4 : decode cX11_feels 4 = .ok (.iload_n 1, 1) := by decide +kernel
theorem dX11_feels_5 : decode cX11_feels 5 = .ok (.iload_n 2, 1) := by decide +kernel
theorem dX11_feels_6 : decode cX11_feels 6 = .ok (.invokevirtual 243, 3) := by decide +kernel
theorem dX11_feels_9 : decode cX11_feels 9 = .ok (.ifCond .eq 15, 3) := by decide +kernel
theorem dX11_feels_24 : decode cX11_feels 24 = .ok (.aload_n 0, 1) := by decide +kernel
theorem dX11_feels_25 : decode cX11_feels 25 = .ok (.iconst 2, 1) := by decide +kernel
theorem dX11_feels_26 : decode cX11_feels 26 = .ok (.invokevirtual 148, 3) := by decide +kernel
theorem dX11_feels_29 : decode cX11_feels 29 = .ok (.ireturn, 1) := by decide +kernel
theorem dX11_filed_0 : decode cX11_filed 0 = .ok (.aload_n 0, 1) := by decide +kernel
theorem dX11_filed_1 : decode cX11_filed 1 = .ok (.getfield 36, 3) := by decide +kernel
theorem dX11_filed_4 : decode cX11_filed 4 = .ok (.iload_n 1, 1) := by decide +kernel
theorem dX11_filed_5 : decode cX11_filed 5 = .ok (.invokevirtual 266, 3) := by decide +kernel
theorem dX11_filed_8 : decode cX11_filed 8 = .ok (.ifCond .ne 9, 3) := by decide +kernel
theorem dX11_filed_11 : decode cX11_filed 11 = .ok (.aload_n 0, 1) := by decide +kernel
theorem dX11_filed_12 : decode cX11_filed 12 = .ok (.iconst 2, 1) := by decide +kernel
theorem dX11_filed_13 : decode cX11_filed 13 = .ok (.invokevirtual 148, 3) := by decide +kernel
theorem dX11_filed_16 : decode cX11_filed 16 = .ok (.ireturn, 1) := by decide +kernel
theorem dX11_found_0 : decode cX11_found 0 = .ok (.iload_n 1, 1) := by decide +kernel
theorem dX11_found_1 : decode cX11_found 1 = .ok (.ifCond .lt 14, 3) := by decide +kernel
theorem dX11_found_4 : decode cX11_found 4 = .ok (.iload_n 1, 1) := by decide +kernel
theorem dX11_found_5 : decode cX11_found 5 = .ok (.aload_n 0, 1) := by decide +kernel
theorem dX11_found_6 : decode cX11_found 6 = .ok (.getfield 77, 3) := by decide +kernel
theorem dX11_found_9 : decode cX11_found 9 = .ok (.getfield 403, 3) := by decide +kernel
theorem dX11_found_12 : decode cX11_found 12 = .ok (.if_icmp .lt 10, 3) := by decide +kernel
theorem dX11_found_15 : decode cX11_found 15 = .ok (.aload_n 0, 1) := by decide +kernel
theorem dX11_found_16 : decode cX11_found 16 = .ok (.bipush 8, 2) := by decide +kernel
theorem dX11_found_18 : decode cX11_found 18 = .ok (.invokevirtual 148, 3) := by decide +kernel
theorem dX11_found_21 : decode cX11_found 21 = .ok (.ireturn, 1) := by decide +kernel
theorem dX11_from_0 : decode cX11_from 0 = .ok (.aload_n 0, 1) := by decide +kernel
theorem dX11_from_1 : decode cX11_from 1 = .ok (.getfield 36, 3) := by decide +kernel
theorem dX11_from_4 : decode cX11_from 4 = .ok (.iload_n 1, 1) := by decide +kernel
theorem dX11_from_5 : decode cX11_from 5 = .ok (.invokevirtual 266, 3) := by decide +kernel
theorem dX11_from_8 : decode cX11_from 8 = .ok (.ifCond .ne 9, 3) := by decide +kernel
theorem dX11_from_11 : decode cX11_from 11 = .ok (.aload_n 0, 1) := by decide +kernel
theorem dX11_from_12 : decode cX11_from 12 = .ok (.iconst 2, 1) := by decide +kernel
theorem dX11_from_13 : decode cX11_from 13 = .ok (.invokevirtual 126, 3) := by decide +kernel
theorem dX11_from_16 : decode cX11_from 16 = .ok (.ireturn, 1) := by decide +kernel
theorem dX11_goOn_0 : decode cX11_goOn 0 = .ok (.aload_n 0, 1) := by decide +kernel
theorem dX11_goOn_1 : decode cX11_goOn 1 = .ok (.getfield 45, 3) := by decide +kernel
theorem dX11_goOn_4 : decode cX11_goOn 4 = .ok (.invokevirtual 320, 3) := by decide +kernel
theorem dX11_goOn_7 : decode cX11_goOn 7 = .ok (.ifCond .ne 10, 3) := by decide +kernel
theorem dX11_goOn_10 : decode cX11_goOn 10 = .ok (.aload_n 0, 1) := by decide +kernel
theorem dX11_goOn_11 : decode cX11_goOn 11 = .ok (.bipush 8, 2) := by decide +kernel
theorem dX11_goOn_13 : decode cX11_goOn 13 = .ok (.invokevirtual 126, 3) := by decide +kernel
theorem dX11_goOn_16 : decode cX11_goOn 16 = .ok (.ireturn, 1) := by decide +kernel
theorem dX11_here_0 : decode cX11_here 0 = .ok (.aload_n 0, 1) := by decide +kernel
theorem dX11_here_1 : decode cX11_here 1 = .ok (.getfield 36, 3) := by decide +kernel
theorem dX11_here_4 : decode cX11_here 4 = .ok (.iload_n 1, 1) := by decide +kernel
theorem dX11_here_5 : decode cX11_here 5 = .ok (.invokevirtual 250, 3) := by decide +kernel
theorem dX11_here_8 : decode cX11_here 8 = .ok (.ifCond .ne 9, 3) := by decide +kernel
theorem dX11_here_11 : decode cX11_here 11 = .ok (.aload_n 0, 1) := by decide +kernel
theorem dX11_here_12 : decode cX11_here 12 = .ok (.iconst 2, 1) := by decide +kernel
theorem dX11_here_13 : decode cX11_here 13 = .ok (.invokevirtual 126, 3) := by decide +kernel
theorem dX11_here_16 : decode cX11_here 16 = .ok (.ireturn, 1) := by decide +kernel
theorem dX11_house_0 : decode cX11_house 0 = .ok (.iload_n 1, 1) := by decide +kernel
theorem dX11_house_1 : decode cX11_house 1 = .ok (.ifCond .lt 14, 3) := by decide +kernel
theorem dX11_house_4 : decode cX11_house 4 = .ok (.iload_n 1, 1) := by decide +kernel
theorem dX11_house_5 : decode cX11_house 5 = .ok (.aload_n 0, 1) := by decide +kernel
theorem dX11_house_6 : decode cX11_house 6 = .ok (.getfield 29, 3) := by decide +kernel
theorem dX11_house_9 : decode cX11_house 9 = .ok (.getfield 174, 3) := by decide +kernel
theorem dX11_house_12 : decode cX11_house 12 = .ok (.if_icmp .le 9, 3) := by decide +kernel
theorem dX11_house_15 : decode cX11_house 15 = .ok (.aload_n 0, 1) := by decide +kernel
theorem dX11_house_16 : decode cX11_house 16 = .ok (.iconst 5, 1) := by decide +kernel
theorem dX11_house_17 : decode cX11_house 17 = .ok (.invokevirtual 148, 3) := by decide +kernel
theorem dX11_house_20 : decode cX11_house 20 = .ok (.ireturn, 1) := by decide +kernel
theorem dX11_house_21 : decode cX11_house 21 = .ok (.aload_n 0, 1) := by decide +kernel
theorem dX11_house_22 : decode cX11_house 22 = .ok (.getfield 29, 3) := by decide +kernel
theorem dX11_house_25 : decode cX11_house 25 = .ok (.iload_n 1, 1) := by decide +kernel
theorem dX11_house_26 : decode cX11_house 26 = .ok (.invokevirtual 177, 3) := by decide +kernel
theorem dX11_house_29 : decode cX11_house 29 = .ok (.aload_n 0, 1) := by decide +kernel
theorem dX11_house_30 : decode cX11_house 30 = .ok (.getfield 61, 3) := by decide +kernel
theorem dX11_house_33 : decode cX11_house 33 = .ok (.invokevirtual 180, 3) := by decide +kernel
theorem dX11_house_36 : decode cX11_house 36 = .ok (.ifCond .ne 10, 3) := by decide +kernel
theorem dX11_house_46 : decode cX11_house 46 = .ok (.aload_n 0, 1) := by decide +kernel
theorem dX11_house_47 : decode cX11_house 47 = .ok (.getfield 61, 3) := by decide +kernel
theorem dX11_house_50 : decode cX11_house 50 = .ok (.getfield 183, 3) := by decide +kernel
theorem dX11_house_53 : decode cX11_house 53 = .ok (.aload_n 0, 1) := by decide +kernel
theorem dX11_house_54 : decode cX11_house 54 = .ok (.getfield 36, 3) := by decide +kernel
theorem dX11_house_57 : decode cX11_house 57 = .ok (.invokestatic 185, 3) := by decide +kernel
theorem dX11_house_60 : decode cX11_house 60 = .ok (.aload_n 0, 1) := by decide +kernel
theorem dX11_house_61 : decode cX11_house 61 = .ok (.getfield 45, 3) := by decide +kernel
theorem dX11_house_64 : decode cX11_house 64 = .ok (.invokevirtual 189, 3) := by decide +kernel
theorem dX11_house_67 : decode cX11_house 67 = .ok (.aload_n 0, 1) := by decide +kernel
theorem dX11_house_68 : decode cX11_house 68 = .ok (.aload_n 0, 1) := by decide +kernel
theorem dX11_house_69 : decode cX11_house 69 = .ok (.getfield 36, 3) := by decide +kernel
theorem dX11_house_72 : decode cX11_house 72 = .ok (.getfield 192, 3) := by decide +kernel
theorem dX11_house_75 : decode cX11_house 75 = .ok (.invokevirtual 195, 3) := by decide +kernel
theorem dX11_house_78 : decode cX11_house 78 = .ok (.ireturn, 1) := by decide +kernel
theorem dX11_inRow_0 : decode cX11_inRow 0 = .ok (.aload_n 0, 1) := by decide +kernel
theorem dX11_inRow_1 : decode cX11_inRow 1 = .ok (.getfield 36, 3) := by decide +kernel
theorem dX11_inRow_4 : decode cX11_inRow 4 = .ok (.iload_n 1, 1) := by decide +kernel
theorem dX11_inRow_5 : decode cX11_inRow 5 = .ok (.invokevirtual 275, 3) := by decide +kernel
theorem dX11_inRow_8 : decode cX11_inRow 8 = .ok (.ifCond .ne 9, 3) := by decide +kernel
theorem dX11_inRow_11 : decode cX11_inRow 11 = .ok (.aload_n 0, 1) := by decide +kernel
theorem dX11_inRow_12 : decode cX11_inRow 12 = .ok (.iconst 2, 1) := by decide +kernel
theorem dX11_inRow_13 : decode cX11_inRow 13 = .ok (.invokevirtual 148, 3) := by decide +kernel
theorem dX11_inRow_16 : decode cX11_inRow 16 = .ok (.ireturn, 1) := by decide +kernel
theorem dX11_key_0 : decode cX11_key 0 = .ok (.aload_n 0, 1) := by decide +kernel
theorem dX11_key_1 : decode cX11_key 1 = .ok (.getfield 36, 3) := by decide +kernel
theorem dX11_key_4 : decode cX11_key 4 = .ok (.iload_n 1, 1) := by decide +kernel
theorem dX11_key_5 : decode cX11_key 5 = .ok (.invokevirtual 250, 3) := by decide +kernel
theorem dX11_key_8 : decode cX11_key 8 = .ok (.ifCond .ne 9, 3) := by decide +kernel
theorem dX11_key_11 : decode cX11_key 11 = .ok (.aload_n 0, 1) := by decide +kernel
theorem dX11_key_12 : decode cX11_key 12 = .ok (.iconst 2, 1) := by decide +kernel
theorem dX11_key_13 : decode cX11_key 13 = .ok (.invokevirtual 148, 3) := by decide +kernel
theorem dX11_key_16 : decode cX11_key 16 = .ok (.ireturn, 1) := by decide +kernel
theorem dX11_known_0 : decode cX11_known 0 = .ok (.aload_n 0, 1) := by decide +kernel
theorem dX11_known_1 : decode cX11_known 1 = .ok (.getfield 36, 3) := by decide +kernel
theorem dX11_known_4 : decode cX11_known 4 = .ok (.iload_n 1, 1) := by decide +kernel
theorem dX11_known_5 : decode cX11_known 5 = .ok (.invokevirtual 266, 3) := by decide +kernel
theorem dX11_known_8 : decode cX11_known 8 = .ok (.ifCond .ne 9, 3) := by decide +kernel
theorem dX11_known_11 : decode cX11_known 11 = .ok (.aload_n 0, 1) := by decide +kernel
theorem dX11_known_12 : decode cX11_known 12 = .ok (.iconst 2, 1) := by decide +kernel
theorem dX11_known_13 : decode cX11_known 13 = .ok (.invokevirtual 148, 3) := by decide +kernel
theorem dX11_known_16 : decode cX11_known 16 = .ok (.ireturn, 1) := by decide +kernel
theorem dX11_laid_0 : decode cX11_laid 0 = .ok (.aload_n 0, 1) := by decide +kernel
theorem dX11_laid_1 : decode cX11_laid 1 = .ok (.getfield 36, 3) := by decide +kernel
theorem dX11_laid_4 : decode cX11_laid 4 = .ok (.iload_n 1, 1) := by decide +kernel
theorem dX11_laid_5 : decode cX11_laid 5 = .ok (.invokevirtual 266, 3) := by decide +kernel
theorem dX11_laid_8 : decode cX11_laid 8 = .ok (.ifCond .ne 9, 3) := by decide +kernel
theorem dX11_laid_11 : decode cX11_laid 11 = .ok (.aload_n 0, 1) := by decide +kernel
theorem dX11_laid_12 : decode cX11_laid 12 = .ok (.iconst 2, 1) := by decide +kernel
theorem dX11_laid_13 : decode cX11_laid 13 = .ok (.invokevirtual 148, 3) := by decide +kernel
theorem dX11_laid_16 : decode cX11_laid 16 = .ok (.ireturn, 1) := by decide +kernel
theorem dX11_laidForRound_0 : decode cX11_laidForRound 0 = .ok (.aload_n 0, 1) := by decide +kernel
theorem dX11_laidForRound_1 : decode cX11_laidForRound 1 = .ok (.getfield 36, 3) := by decide +kernel
theorem dX11_laidForRound_4 : decode cX11_laidForRound 4 = .ok (.iload_n 1, 1) := by decide +kernel
theorem dX11_laidForRound_5 : decode cX11_laidForRound 5 = .ok (.invokevirtual 266, 3) := by decide +kernel
theorem dX11_laidForRound_8 : decode cX11_laidForRound 8 = .ok (.ifCond .ne 9, 3) := by decide +kernel
theorem dX11_laidForRound_11 : decode cX11_laidForRound 11 = .ok (.aload_n 0, 1) := by decide +kernel
theorem dX11_laidForRound_12 : decode cX11_laidForRound 12 = .ok (.iconst 2, 1) := by decide +kernel
theorem dX11_laidForRound_13 : decode cX11_laidForRound 13 = .ok (.invokevirtual 148, 3) := by decide +kernel
theorem dX11_laidForRound_16 : decode cX11_laidForRound 16 = .ok (.ireturn, 1) := by decide +kernel
theorem dX11_lay_0 : decode cX11_lay 0 = .ok (.aload_n 0, 1) := by decide +kernel
theorem dX11_lay_1 : decode cX11_lay 1 = .ok (.iload_n 2, 1) := by decide +kernel
theorem dX11_lay_2 : decode cX11_lay 2 = .ok (.invokevirtual 122, 3) := by decide +kernel
theorem dX11_lay_5 : decode cX11_lay 5 = .ok (.astore_n 3, 1) := by decide +kernel
theorem dX11_lay_6 : decode cX11_lay 6 = .ok (.aload_n 3, 1) := by decide +kernel
theorem dX11_lay_7 : decode cX11_lay 7 = .ok (.ifnonnull 9, 3) := by decide +kernel
theorem dX11_lay_10 : decode cX11_lay 10 = .ok (.aload_n 0, 1) := by decide +kernel
theorem dX11_lay_11 : decode cX11_lay 11 = .ok (.iconst 1, 1) := by decide +kernel
theorem dX11_lay_12 : decode cX11_lay 12 = .ok (.invokevirtual 126, 3) := by decide +kernel
theorem dX11_lay_15 : decode cX11_lay 15 = .ok (.ireturn, 1) := by decide +kernel
theorem dX11_lay_16 : decode cX11_lay 16 = .ok (.aload_n 0, 1) := by decide +kernel
theorem dX11_lay_17 : decode cX11_lay 17 = .ok (.getfield 36, 3) := by decide +kernel
theorem dX11_lay_20 : decode cX11_lay 20 = .ok (.iload_n 1, 1) := by decide +kernel
theorem dX11_lay_21 : decode cX11_lay 21 = .ok (.invokevirtual 266, 3) := by decide +kernel
theorem dX11_lay_24 : decode cX11_lay 24 = .ok (.ifCond .ne 9, 3) := by decide +kernel
theorem dX11_lay_27 : decode cX11_lay 27 = .ok (.aload_n 0, 1) := by decide +kernel
theorem dX11_lay_28 : decode cX11_lay 28 = .ok (.iconst 2, 1) := by decide +kernel
theorem dX11_lay_29 : decode cX11_lay 29 = .ok (.invokevirtual 126, 3) := by decide +kernel
theorem dX11_lay_32 : decode cX11_lay 32 = .ok (.ireturn, 1) := by decide +kernel
theorem dX11_lend_0 : decode cX11_lend 0 = .ok (.aload_n 0, 1) := by decide +kernel
theorem dX11_lend_1 : decode cX11_lend 1 = .ok (.getfield 36, 3) := by decide +kernel
theorem dX11_lend_4 : decode cX11_lend 4 = .ok (.iload_n 1, 1) := by decide +kernel
theorem dX11_lend_5 : decode cX11_lend 5 = .ok (.invokevirtual 250, 3) := by decide +kernel
theorem dX11_lend_8 : decode cX11_lend 8 = .ok (.ifCond .ne 9, 3) := by decide +kernel
theorem dX11_lend_11 : decode cX11_lend 11 = .ok (.aload_n 0, 1) := by decide +kernel
theorem dX11_lend_12 : decode cX11_lend 12 = .ok (.iconst 2, 1) := by decide +kernel
theorem dX11_lend_13 : decode cX11_lend 13 = .ok (.invokevirtual 126, 3) := by decide +kernel
theorem dX11_lend_16 : decode cX11_lend 16 = .ok (.ireturn, 1) := by decide +kernel
theorem dX11_many_0 : decode cX11_many 0 = .ok (.iload_n 1, 1) := by decide +kernel
theorem dX11_many_1 : decode cX11_many 1 = .ok (.tableswitch 195 0 10 #[59, 71, 83, 95, 107, 119, 132, 145, 158, 171, 183], 59) := by decide +kernel
theorem dX11_many_60 : decode cX11_many 60 = .ok (.aload_n 0, 1) := by decide +kernel
theorem dX11_many_61 : decode cX11_many 61 = .ok (.aload_n 0, 1) := by decide +kernel
theorem dX11_many_62 : decode cX11_many 62 = .ok (.getfield 36, 3) := by decide +kernel
theorem dX11_many_65 : decode cX11_many 65 = .ok (.getfield 213, 3) := by decide +kernel
theorem dX11_many_68 : decode cX11_many 68 = .ok (.invokevirtual 195, 3) := by decide +kernel
theorem dX11_many_71 : decode cX11_many 71 = .ok (.ireturn, 1) := by decide +kernel
theorem dX11_many_72 : decode cX11_many 72 = .ok (.aload_n 0, 1) := by decide +kernel
theorem dX11_many_73 : decode cX11_many 73 = .ok (.aload_n 0, 1) := by decide +kernel
theorem dX11_many_74 : decode cX11_many 74 = .ok (.getfield 36, 3) := by decide +kernel
theorem dX11_many_77 : decode cX11_many 77 = .ok (.getfield 192, 3) := by decide +kernel
theorem dX11_many_80 : decode cX11_many 80 = .ok (.invokevirtual 195, 3) := by decide +kernel
theorem dX11_many_83 : decode cX11_many 83 = .ok (.ireturn, 1) := by decide +kernel
theorem dX11_many_84 : decode cX11_many 84 = .ok (.aload_n 0, 1) := by decide +kernel
theorem dX11_many_85 : decode cX11_many 85 = .ok (.aload_n 0, 1) := by decide +kernel
theorem dX11_many_86 : decode cX11_many 86 = .ok (.getfield 36, 3) := by decide +kernel
theorem dX11_many_89 : decode cX11_many 89 = .ok (.getfield 216, 3) := by decide +kernel
theorem dX11_many_92 : decode cX11_many 92 = .ok (.invokevirtual 195, 3) := by decide +kernel
theorem dX11_many_95 : decode cX11_many 95 = .ok (.ireturn, 1) := by decide +kernel
theorem dX11_many_96 : decode cX11_many 96 = .ok (.aload_n 0, 1) := by decide +kernel
theorem dX11_many_97 : decode cX11_many 97 = .ok (.aload_n 0, 1) := by decide +kernel
theorem dX11_many_98 : decode cX11_many 98 = .ok (.getfield 36, 3) := by decide +kernel
theorem dX11_many_101 : decode cX11_many 101 = .ok (.getfield 219, 3) := by decide +kernel
theorem dX11_many_104 : decode cX11_many 104 = .ok (.invokevirtual 195, 3) := by decide +kernel
theorem dX11_many_107 : decode cX11_many 107 = .ok (.ireturn, 1) := by decide +kernel
theorem dX11_many_108 : decode cX11_many 108 = .ok (.aload_n 0, 1) := by decide +kernel
theorem dX11_many_109 : decode cX11_many 109 = .ok (.aload_n 0, 1) := by decide +kernel
theorem dX11_many_110 : decode cX11_many 110 = .ok (.getfield 36, 3) := by decide +kernel
theorem dX11_many_113 : decode cX11_many 113 = .ok (.getfield 222, 3) := by decide +kernel
theorem dX11_many_116 : decode cX11_many 116 = .ok (.invokevirtual 195, 3) := by decide +kernel
theorem dX11_many_119 : decode cX11_many 119 = .ok (.ireturn, 1) := by decide +kernel
theorem dX11_many_120 : decode cX11_many 120 = .ok (.aload_n 0, 1) := by decide +kernel
theorem dX11_many_121 : decode cX11_many 121 = .ok (.aload_n 0, 1) := by decide +kernel
theorem dX11_many_122 : decode cX11_many 122 = .ok (.getfield 36, 3) := by decide +kernel
theorem dX11_many_125 : decode cX11_many 125 = .ok (.iconst 0, 1) := by decide +kernel
theorem dX11_many_126 : decode cX11_many 126 = .ok (.invokevirtual 225, 3) := by decide +kernel
theorem dX11_many_129 : decode cX11_many 129 = .ok (.invokevirtual 195, 3) := by decide +kernel
theorem dX11_many_132 : decode cX11_many 132 = .ok (.ireturn, 1) := by decide +kernel
theorem dX11_many_133 : decode cX11_many 133 = .ok (.aload_n 0, 1) := by decide +kernel
theorem dX11_many_134 : decode cX11_many 134 = .ok (.aload_n 0, 1) := by decide +kernel
theorem dX11_many_135 : decode cX11_many 135 = .ok (.getfield 36, 3) := by decide +kernel
theorem dX11_many_138 : decode cX11_many 138 = .ok (.iconst 1, 1) := by decide +kernel
theorem dX11_many_139 : decode cX11_many 139 = .ok (.invokevirtual 225, 3) := by decide +kernel
theorem dX11_many_142 : decode cX11_many 142 = .ok (.invokevirtual 195, 3) := by decide +kernel
theorem dX11_many_145 : decode cX11_many 145 = .ok (.ireturn, 1) := by decide +kernel
theorem dX11_many_146 : decode cX11_many 146 = .ok (.aload_n 0, 1) := by decide +kernel
theorem dX11_many_147 : decode cX11_many 147 = .ok (.aload_n 0, 1) := by decide +kernel
theorem dX11_many_148 : decode cX11_many 148 = .ok (.getfield 36, 3) := by decide +kernel
theorem dX11_many_151 : decode cX11_many 151 = .ok (.iconst 2, 1) := by decide +kernel
theorem dX11_many_152 : decode cX11_many 152 = .ok (.invokevirtual 225, 3) := by decide +kernel
theorem dX11_many_155 : decode cX11_many 155 = .ok (.invokevirtual 195, 3) := by decide +kernel
theorem dX11_many_158 : decode cX11_many 158 = .ok (.ireturn, 1) := by decide +kernel
theorem dX11_many_159 : decode cX11_many 159 = .ok (.aload_n 0, 1) := by decide +kernel
theorem dX11_many_160 : decode cX11_many 160 = .ok (.aload_n 0, 1) := by decide +kernel
theorem dX11_many_161 : decode cX11_many 161 = .ok (.getfield 36, 3) := by decide +kernel
theorem dX11_many_164 : decode cX11_many 164 = .ok (.iconst 3, 1) := by decide +kernel
theorem dX11_many_165 : decode cX11_many 165 = .ok (.invokevirtual 225, 3) := by decide +kernel
theorem dX11_many_168 : decode cX11_many 168 = .ok (.invokevirtual 195, 3) := by decide +kernel
theorem dX11_many_171 : decode cX11_many 171 = .ok (.ireturn, 1) := by decide +kernel
theorem dX11_many_172 : decode cX11_many 172 = .ok (.aload_n 0, 1) := by decide +kernel
theorem dX11_many_173 : decode cX11_many 173 = .ok (.aload_n 0, 1) := by decide +kernel
theorem dX11_many_174 : decode cX11_many 174 = .ok (.getfield 36, 3) := by decide +kernel
theorem dX11_many_177 : decode cX11_many 177 = .ok (.getfield 228, 3) := by decide +kernel
theorem dX11_many_180 : decode cX11_many 180 = .ok (.invokevirtual 195, 3) := by decide +kernel
theorem dX11_many_183 : decode cX11_many 183 = .ok (.ireturn, 1) := by decide +kernel
theorem dX11_many_184 : decode cX11_many 184 = .ok (.aload_n 0, 1) := by decide +kernel
theorem dX11_many_185 : decode cX11_many 185 = .ok (.aload_n 0, 1) := by decide +kernel
theorem dX11_many_186 : decode cX11_many 186 = .ok (.getfield 45, 3) := by decide +kernel
theorem dX11_many_189 : decode cX11_many 189 = .ok (.getfield 231, 3) := by decide +kernel
theorem dX11_many_192 : decode cX11_many 192 = .ok (.invokevirtual 195, 3) := by decide +kernel
theorem dX11_many_195 : decode cX11_many 195 = .ok (.ireturn, 1) := by decide +kernel
theorem dX11_many_196 : decode cX11_many 196 = .ok (.aload_n 0, 1) := by decide +kernel
theorem dX11_many_197 : decode cX11_many 197 = .ok (.iconst 5, 1) := by decide +kernel
theorem dX11_many_198 : decode cX11_many 198 = .ok (.invokevirtual 148, 3) := by decide +kernel
theorem dX11_many_201 : decode cX11_many 201 = .ok (.ireturn, 1) := by decide +kernel
theorem dX11_mark_0 : decode cX11_mark 0 = .ok (.aload_n 0, 1) := by decide +kernel
theorem dX11_mark_1 : decode cX11_mark 1 = .ok (.getfield 106, 3) := by decide +kernel
theorem dX11_mark_4 : decode cX11_mark 4 = .ok (.ifCond .lt 11, 3) := by decide +kernel
theorem dX11_mark_7 : decode cX11_mark 7 = .ok (.aload_n 0, 1) := by decide +kernel
theorem dX11_mark_8 : decode cX11_mark 8 = .ok (.getfield 106, 3) := by decide +kernel
theorem dX11_mark_11 : decode cX11_mark 11 = .ok (.iconst 3, 1) := by decide +kernel
theorem dX11_mark_12 : decode cX11_mark 12 = .ok (.if_icmp .lt 10, 3) := by decide +kernel
theorem dX11_mark_22 : decode cX11_mark 22 = .ok (.aload_n 0, 1) := by decide +kernel
theorem dX11_mark_23 : decode cX11_mark 23 = .ok (.getfield 36, 3) := by decide +kernel
theorem dX11_mark_26 : decode cX11_mark 26 = .ok (.aload_n 0, 1) := by decide +kernel
theorem dX11_mark_27 : decode cX11_mark 27 = .ok (.getfield 109, 3) := by decide +kernel
theorem dX11_mark_30 : decode cX11_mark 30 = .ok (.aload_n 0, 1) := by decide +kernel
theorem dX11_mark_31 : decode cX11_mark 31 = .ok (.getfield 106, 3) := by decide +kernel
theorem dX11_mark_34 : decode cX11_mark 34 = .ok (.aaload, 1) := by decide +kernel
theorem dX11_mark_35 : decode cX11_mark 35 = .ok (.invokestatic 185, 3) := by decide +kernel
theorem dX11_mark_38 : decode cX11_mark 38 = .ok (.aload_n 0, 1) := by decide +kernel
theorem dX11_mark_39 : decode cX11_mark 39 = .ok (.getfield 45, 3) := by decide +kernel
theorem dX11_mark_42 : decode cX11_mark 42 = .ok (.aload_n 0, 1) := by decide +kernel
theorem dX11_mark_43 : decode cX11_mark 43 = .ok (.getfield 113, 3) := by decide +kernel
theorem dX11_mark_46 : decode cX11_mark 46 = .ok (.aload_n 0, 1) := by decide +kernel
theorem dX11_mark_47 : decode cX11_mark 47 = .ok (.getfield 106, 3) := by decide +kernel
theorem dX11_mark_50 : decode cX11_mark 50 = .ok (.aaload, 1) := by decide +kernel
theorem dX11_mark_51 : decode cX11_mark 51 = .ok (.invokestatic 453, 3) := by decide +kernel
theorem dX11_mark_54 : decode cX11_mark 54 = .ok (.aload_n 0, 1) := by decide +kernel
theorem dX11_mark_55 : decode cX11_mark 55 = .ok (.getfield 52, 3) := by decide +kernel
theorem dX11_mark_58 : decode cX11_mark 58 = .ok (.aload_n 0, 1) := by decide +kernel
theorem dX11_mark_59 : decode cX11_mark 59 = .ok (.getfield 117, 3) := by decide +kernel
theorem dX11_mark_62 : decode cX11_mark 62 = .ok (.aload_n 0, 1) := by decide +kernel
theorem dX11_mark_63 : decode cX11_mark 63 = .ok (.getfield 106, 3) := by decide +kernel
theorem dX11_mark_66 : decode cX11_mark 66 = .ok (.aaload, 1) := by decide +kernel
theorem dX11_mark_67 : decode cX11_mark 67 = .ok (.invokestatic 201, 3) := by decide +kernel
theorem dX11_mark_70 : decode cX11_mark 70 = .ok (.aload_n 0, 1) := by decide +kernel
theorem dX11_mark_71 : decode cX11_mark 71 = .ok (.dup, 1) := by decide +kernel
theorem dX11_mark_72 : decode cX11_mark 72 = .ok (.getfield 106, 3) := by decide +kernel
theorem dX11_mark_75 : decode cX11_mark 75 = .ok (.iconst 1, 1) := by decide +kernel
theorem dX11_mark_76 : decode cX11_mark 76 = .ok (.iadd, 1) := by decide +kernel
theorem dX11_mark_77 : decode cX11_mark 77 = .ok (.putfield 106, 3) := by decide +kernel
theorem dX11_mark_80 : decode cX11_mark 80 = .ok (.aload_n 0, 1) := by decide +kernel
theorem dX11_mark_81 : decode cX11_mark 81 = .ok (.aload_n 0, 1) := by decide +kernel
theorem dX11_mark_82 : decode cX11_mark 82 = .ok (.getfield 106, 3) := by decide +kernel
theorem dX11_mark_85 : decode cX11_mark 85 = .ok (.invokevirtual 195, 3) := by decide +kernel
theorem dX11_mark_88 : decode cX11_mark 88 = .ok (.ireturn, 1) := by decide +kernel
theorem dX11_missing_0 : decode cX11_missing 0 = .ok (.aload_n 0, 1) := by decide +kernel
theorem dX11_missing_1 : decode cX11_missing 1 = .ok (.getfield 36, 3) := by decide +kernel
theorem dX11_missing_4 : decode cX11_missing 4 = .ok (.iload_n 1, 1) := by decide +kernel
theorem dX11_missing_5 : decode cX11_missing 5 = .ok (.invokevirtual 250, 3) := by decide +kernel
theorem dX11_missing_8 : decode cX11_missing 8 = .ok (.ifCond .eq 14, 3) := by decide +kernel
theorem dX11_missing_22 : decode cX11_missing 22 = .ok (.aload_n 0, 1) := by decide +kernel
theorem dX11_missing_23 : decode cX11_missing 23 = .ok (.iconst 2, 1) := by decide +kernel
theorem dX11_missing_24 : decode cX11_missing 24 = .ok (.invokevirtual 126, 3) := by decide +kernel
theorem dX11_missing_27 : decode cX11_missing 27 = .ok (.ireturn, 1) := by decide +kernel
theorem dX11_newly_0 : decode cX11_newly 0 = .ok (.aload_n 0, 1) := by decide +kernel
theorem dX11_newly_1 : decode cX11_newly 1 = .ok (.getfield 36, 3) := by decide +kernel
theorem dX11_newly_4 : decode cX11_newly 4 = .ok (.iload_n 1, 1) := by decide +kernel
theorem dX11_newly_5 : decode cX11_newly 5 = .ok (.invokevirtual 250, 3) := by decide +kernel
theorem dX11_newly_8 : decode cX11_newly 8 = .ok (.ifCond .eq 25, 3) := by decide +kernel
theorem dX11_newly_33 : decode cX11_newly 33 = .ok (.aload_n 0, 1) := by decide +kernel
theorem dX11_newly_34 : decode cX11_newly 34 = .ok (.iconst 2, 1) := by decide +kernel
theorem dX11_newly_35 : decode cX11_newly 35 = .ok (.invokevirtual 148, 3) := by decide +kernel
theorem dX11_newly_38 : decode cX11_newly 38 = .ok (.ireturn, 1) := by decide +kernel
theorem dX11_next_0 : decode cX11_next 0 = .ok (.aload_n 0, 1) := by decide +kernel
theorem dX11_next_1 : decode cX11_next 1 = .ok (.getfield 36, 3) := by decide +kernel
theorem dX11_next_4 : decode cX11_next 4 = .ok (.iload_n 1, 1) := by decide +kernel
theorem dX11_next_5 : decode cX11_next 5 = .ok (.invokevirtual 275, 3) := by decide +kernel
theorem dX11_next_8 : decode cX11_next 8 = .ok (.ifCond .ne 9, 3) := by decide +kernel
theorem dX11_next_11 : decode cX11_next 11 = .ok (.aload_n 0, 1) := by decide +kernel
theorem dX11_next_12 : decode cX11_next 12 = .ok (.iconst 2, 1) := by decide +kernel
theorem dX11_next_13 : decode cX11_next 13 = .ok (.invokevirtual 148, 3) := by decide +kernel
theorem dX11_next_16 : decode cX11_next 16 = .ok (.ireturn, 1) := by decide +kernel
theorem dX11_off_0 : decode cX11_off 0 = .ok (.aload_n 0, 1) := by decide +kernel
theorem dX11_off_1 : decode cX11_off 1 = .ok (.getfield 36, 3) := by decide +kernel
theorem dX11_off_4 : decode cX11_off 4 = .ok (.iload_n 1, 1) := by decide +kernel
theorem dX11_off_5 : decode cX11_off 5 = .ok (.invokevirtual 250, 3) := by decide +kernel
theorem dX11_off_8 : decode cX11_off 8 = .ok (.ifCond .ne 9, 3) := by decide +kernel
theorem dX11_off_11 : decode cX11_off 11 = .ok (.aload_n 0, 1) := by decide +kernel
theorem dX11_off_12 : decode cX11_off 12 = .ok (.iconst 2, 1) := by decide +kernel
theorem dX11_off_13 : decode cX11_off 13 = .ok (.invokevirtual 126, 3) := by decide +kernel
theorem dX11_off_16 : decode cX11_off 16 = .ok (.ireturn, 1) := by decide +kernel
theorem dX11_opens_0 : decode cX11_opens 0 = .ok (.aload_n 0, 1) := by decide +kernel
theorem dX11_opens_1 : decode cX11_opens 1 = .ok (.getfield 36, 3) := by decide +kernel
theorem dX11_opens_4 : decode cX11_opens 4 = .ok (.iload_n 1, 1) := by decide +kernel
theorem dX11_opens_5 : decode cX11_opens 5 = .ok (.invokevirtual 275, 3) := by decide +kernel
theorem dX11_opens_8 : decode cX11_opens 8 = .ok (.ifCond .ne 9, 3) := by decide +kernel
theorem dX11_opens_11 : decode cX11_opens 11 = .ok (.aload_n 0, 1) := by decide +kernel
theorem dX11_opens_12 : decode cX11_opens 12 = .ok (.iconst 2, 1) := by decide +kernel
theorem dX11_opens_13 : decode cX11_opens 13 = .ok (.invokevirtual 126, 3) := by decide +kernel
theorem dX11_opens_16 : decode cX11_opens 16 = .ok (.ireturn, 1) := by decide +kernel
theorem dX11_part_0 : decode cX11_part 0 = .ok (.aload_n 0, 1) := by decide +kernel
theorem dX11_part_1 : decode cX11_part 1 = .ok (.getfield 45, 3) := by decide +kernel
theorem dX11_part_4 : decode cX11_part 4 = .ok (.invokevirtual 320, 3) := by decide +kernel
theorem dX11_part_7 : decode cX11_part 7 = .ok (.ifCond .ne 10, 3) := by decide +kernel
theorem dX11_part_10 : decode cX11_part 10 = .ok (.aload_n 0, 1) := by decide +kernel
theorem dX11_part_11 : decode cX11_part 11 = .ok (.bipush 8, 2) := by decide +kernel
theorem dX11_part_13 : decode cX11_part 13 = .ok (.invokevirtual 148, 3) := by decide +kernel
theorem dX11_part_16 : decode cX11_part 16 = .ok (.ireturn, 1) := by decide +kernel
theorem dX11_play_0 : decode cX11_play 0 = .ok (.aload_n 0, 1) := by decide +kernel
theorem dX11_play_1 : decode cX11_play 1 = .ok (.getfield 36, 3) := by decide +kernel
theorem dX11_play_4 : decode cX11_play 4 = .ok (.iload_n 1, 1) := by decide +kernel
theorem dX11_play_5 : decode cX11_play 5 = .ok (.invokevirtual 266, 3) := by decide +kernel
theorem dX11_play_8 : decode cX11_play 8 = .ok (.ifCond .eq 14, 3) := by decide +kernel
theorem dX11_play_22 : decode cX11_play 22 = .ok (.aload_n 0, 1) := by decide +kernel
theorem dX11_play_23 : decode cX11_play 23 = .ok (.iconst 2, 1) := by decide +kernel
theorem dX11_play_24 : decode cX11_play 24 = .ok (.invokevirtual 148, 3) := by decide +kernel
theorem dX11_play_27 : decode cX11_play 27 = .ok (.ireturn, 1) := by decide +kernel
theorem dX11_played_0 : decode cX11_played 0 = .ok (.aload_n 0, 1) := by decide +kernel
theorem dX11_played_1 : decode cX11_played 1 = .ok (.getfield 102, 3) := by decide +kernel
theorem dX11_played_4 : decode cX11_played 4 = .ok (.iload_n 1, 1) := by decide +kernel
theorem dX11_played_5 : decode cX11_played 5 = .ok (.invokevirtual 441, 3) := by decide +kernel
theorem dX11_played_8 : decode cX11_played 8 = .ok (.ifCond .ne 9, 3) := by decide +kernel
theorem dX11_played_11 : decode cX11_played 11 = .ok (.aload_n 0, 1) := by decide +kernel
theorem dX11_played_12 : decode cX11_played 12 = .ok (.iconst 5, 1) := by decide +kernel
theorem dX11_played_13 : decode cX11_played 13 = .ok (.invokevirtual 148, 3) := by decide +kernel
theorem dX11_played_16 : decode cX11_played 16 = .ok (.ireturn, 1) := by decide +kernel
theorem dX11_played_17 : decode cX11_played 17 = .ok (.aload_n 0, 1) := by decide +kernel
theorem dX11_played_18 : decode cX11_played 18 = .ok (.getfield 102, 3) := by decide +kernel
theorem dX11_played_21 : decode cX11_played 21 = .ok (.getfield 444, 3) := by decide +kernel
theorem dX11_played_24 : decode cX11_played 24 = .ok (.ifCond .ne 10, 3) := by decide +kernel
theorem dX11_played_27 : decode cX11_played 27 = .ok (.aload_n 0, 1) := by decide +kernel
theorem dX11_played_28 : decode cX11_played 28 = .ok (.bipush 8, 2) := by decide +kernel
theorem dX11_played_30 : decode cX11_played 30 = .ok (.invokevirtual 148, 3) := by decide +kernel
theorem dX11_played_33 : decode cX11_played 33 = .ok (.ireturn, 1) := by decide +kernel
theorem dX11_pour_0 : decode cX11_pour 0 = .ok (.aload_n 0, 1) := by decide +kernel
theorem dX11_pour_1 : decode cX11_pour 1 = .ok (.iload_n 1, 1) := by decide +kernel
theorem dX11_pour_2 : decode cX11_pour 2 = .ok (.invokevirtual 122, 3) := by decide +kernel
theorem dX11_pour_5 : decode cX11_pour 5 = .ok (.astore 6, 2) := by decide +kernel
theorem dX11_pour_7 : decode cX11_pour 7 = .ok (.aload_n 0, 1) := by decide +kernel
theorem dX11_pour_8 : decode cX11_pour 8 = .ok (.iload_n 3, 1) := by decide +kernel
theorem dX11_pour_9 : decode cX11_pour 9 = .ok (.invokevirtual 122, 3) := by decide +kernel
theorem dX11_pour_12 : decode cX11_pour 12 = .ok (.astore 7, 2) := by decide +kernel
theorem dX11_pour_14 : decode cX11_pour 14 = .ok (.aload 6, 2) := by decide +kernel
theorem dX11_pour_16 : decode cX11_pour 16 = .ok (.ifnull 8, 3) := by decide +kernel
theorem dX11_pour_19 : decode cX11_pour 19 = .ok (.aload 7, 2) := by decide +kernel
theorem dX11_pour_21 : decode cX11_pour 21 = .ok (.ifnonnull 9, 3) := by decide +kernel
theorem dX11_pour_24 : decode cX11_pour 24 = .ok (.aload_n 0, 1) := by decide +kernel
theorem dX11_pour_25 : decode cX11_pour 25 = .ok (.iconst 1, 1) := by decide +kernel
theorem dX11_pour_26 : decode cX11_pour 26 = .ok (.invokevirtual 126, 3) := by decide +kernel
theorem dX11_pour_29 : decode cX11_pour 29 = .ok (.ireturn, 1) := by decide +kernel
theorem dX11_pour_30 : decode cX11_pour 30 = .ok (.aload 6, 2) := by decide +kernel
theorem dX11_pour_32 : decode cX11_pour 32 = .ok (.invokevirtual 138, 3) := by decide +kernel
theorem dX11_pour_35 : decode cX11_pour 35 = .ok (.ifCond .ne 11, 3) := by decide +kernel
theorem dX11_pour_46 : decode cX11_pour 46 = .ok (.aload_n 0, 1) := by decide +kernel
theorem dX11_pour_47 : decode cX11_pour 47 = .ok (.iconst 3, 1) := by decide +kernel
theorem dX11_pour_48 : decode cX11_pour 48 = .ok (.invokevirtual 126, 3) := by decide +kernel
theorem dX11_pour_51 : decode cX11_pour 51 = .ok (.ireturn, 1) := by decide +kernel
theorem dX11_put_0 : decode cX11_put 0 = .ok (.aload_n 0, 1) := by decide +kernel
theorem dX11_put_1 : decode cX11_put 1 = .ok (.getfield 36, 3) := by decide +kernel
theorem dX11_put_4 : decode cX11_put 4 = .ok (.iload_n 1, 1) := by decide +kernel
theorem dX11_put_5 : decode cX11_put 5 = .ok (.invokevirtual 250, 3) := by decide +kernel
theorem dX11_put_8 : decode cX11_put 8 = .ok (.ifCond .eq 14, 3) := by decide +kernel
theorem dX11_put_22 : decode cX11_put 22 = .ok (.aload_n 0, 1) := by decide +kernel
theorem dX11_put_23 : decode cX11_put 23 = .ok (.iconst 2, 1) := by decide +kernel
theorem dX11_put_24 : decode cX11_put 24 = .ok (.invokevirtual 126, 3) := by decide +kernel
theorem dX11_put_27 : decode cX11_put 27 = .ok (.ireturn, 1) := by decide +kernel
theorem dX11_read_0 : decode cX11_read 0 = .ok (.aload_n 0, 1) := by decide +kernel
theorem dX11_read_1 : decode cX11_read 1 = .ok (.iload_n 1, 1) := by decide +kernel
theorem dX11_read_2 : decode cX11_read 2 = .ok (.invokevirtual 122, 3) := by decide +kernel
theorem dX11_read_5 : decode cX11_read 5 = .ok (.astore_n 3, 1) := by decide +kernel
theorem dX11_read_6 : decode cX11_read 6 = .ok (.aload_n 3, 1) := by decide +kernel
theorem dX11_read_7 : decode cX11_read 7 = .ok (.ifnonnull 10, 3) := by decide +kernel
theorem dX11_read_10 : decode cX11_read 10 = .ok (.aload_n 0, 1) := by decide +kernel
theorem dX11_read_11 : decode cX11_read 11 = .ok (.iconst 1, 1) := by decide +kernel
theorem dX11_read_12 : decode cX11_read 12 = .ok (.invokevirtual 148, 3) := by decide +kernel
theorem dX11_read_15 : decode cX11_read 15 = .ok (.i2l, 1) := by decide +kernel
theorem dX11_read_16 : decode cX11_read 16 = .ok (.lreturn, 1) := by decide +kernel
theorem dX11_read_17 : decode cX11_read 17 = .ok (.aload_n 3, 1) := by decide +kernel
theorem dX11_read_18 : decode cX11_read 18 = .ok (.invokevirtual 138, 3) := by decide +kernel
theorem dX11_read_21 : decode cX11_read 21 = .ok (.ifCond .eq 10, 3) := by decide +kernel
theorem dX11_read_24 : decode cX11_read 24 = .ok (.aload_n 0, 1) := by decide +kernel
theorem dX11_read_25 : decode cX11_read 25 = .ok (.iconst 3, 1) := by decide +kernel
theorem dX11_read_26 : decode cX11_read 26 = .ok (.invokevirtual 148, 3) := by decide +kernel
theorem dX11_read_29 : decode cX11_read 29 = .ok (.i2l, 1) := by decide +kernel
theorem dX11_read_30 : decode cX11_read 30 = .ok (.lreturn, 1) := by decide +kernel
theorem dX11_ring_0 : decode cX11_ring 0 = .ok (.aload_n 0, 1) := by decide +kernel
theorem dX11_ring_1 : decode cX11_ring 1 = .ok (.getfield 36, 3) := by decide +kernel
theorem dX11_ring_4 : decode cX11_ring 4 = .ok (.iload_n 1, 1) := by decide +kernel
theorem dX11_ring_5 : decode cX11_ring 5 = .ok (.invokevirtual 266, 3) := by decide +kernel
theorem dX11_ring_8 : decode cX11_ring 8 = .ok (.ifCond .ne 9, 3) := by decide +kernel
theorem dX11_ring_11 : decode cX11_ring 11 = .ok (.aload_n 0, 1) := by decide +kernel
theorem dX11_ring_12 : decode cX11_ring 12 = .ok (.iconst 2, 1) := by decide +kernel
theorem dX11_ring_13 : decode cX11_ring 13 = .ok (.invokevirtual 148, 3) := by decide +kernel
theorem dX11_ring_16 : decode cX11_ring 16 = .ok (.ireturn, 1) := by decide +kernel
theorem dX11_round_0 : decode cX11_round 0 = .ok (.iload_n 1, 1) := by decide +kernel
theorem dX11_round_1 : decode cX11_round 1 = .ok (.ifCond .lt 14, 3) := by decide +kernel
theorem dX11_round_4 : decode cX11_round 4 = .ok (.iload_n 1, 1) := by decide +kernel
theorem dX11_round_5 : decode cX11_round 5 = .ok (.aload_n 0, 1) := by decide +kernel
theorem dX11_round_6 : decode cX11_round 6 = .ok (.getfield 36, 3) := by decide +kernel
theorem dX11_round_9 : decode cX11_round 9 = .ok (.getfield 222, 3) := by decide +kernel
theorem dX11_round_12 : decode cX11_round 12 = .ok (.if_icmp .lt 10, 3) := by decide +kernel
theorem dX11_round_15 : decode cX11_round 15 = .ok (.aload_n 0, 1) := by decide +kernel
theorem dX11_round_16 : decode cX11_round 16 = .ok (.bipush 8, 2) := by decide +kernel
theorem dX11_round_18 : decode cX11_round 18 = .ok (.invokevirtual 148, 3) := by decide +kernel
theorem dX11_round_21 : decode cX11_round 21 = .ok (.ireturn, 1) := by decide +kernel
theorem dX11_rule_0 : decode cX11_rule 0 = .ok (.iload_n 1, 1) := by decide +kernel
theorem dX11_rule_1 : decode cX11_rule 1 = .ok (.ifCond .lt 21, 3) := by decide +kernel
theorem dX11_rule_4 : decode cX11_rule 4 = .ok (.iload_n 1, 1) := by decide +kernel
theorem dX11_rule_5 : decode cX11_rule 5 = .ok (.aload_n 0, 1) := by decide +kernel
theorem dX11_rule_6 : decode cX11_rule 6 = .ok (.getfield 29, 3) := by decide +kernel
theorem dX11_rule_9 : decode cX11_rule 9 = .ok (.getfield 174, 3) := by decide +kernel
theorem dX11_rule_12 : decode cX11_rule 12 = .ok (.if_icmp .gt 10, 3) := by decide +kernel
theorem dX11_rule_15 : decode cX11_rule 15 = .ok (.iload_n 1, 1) := by decide +kernel
theorem dX11_rule_16 : decode cX11_rule 16 = .ok (.sipush 300, 3) := by decide +kernel
theorem dX11_rule_19 : decode cX11_rule 19 = .ok (.if_icmp .le 9, 3) := by decide +kernel
theorem dX11_rule_22 : decode cX11_rule 22 = .ok (.aload_n 0, 1) := by decide +kernel
theorem dX11_rule_23 : decode cX11_rule 23 = .ok (.iconst 5, 1) := by decide +kernel
theorem dX11_rule_24 : decode cX11_rule 24 = .ok (.invokevirtual 148, 3) := by decide +kernel
theorem dX11_rule_27 : decode cX11_rule 27 = .ok (.ireturn, 1) := by decide +kernel
theorem dX11_rule_28 : decode cX11_rule 28 = .ok (.aload_n 0, 1) := by decide +kernel
theorem dX11_rule_29 : decode cX11_rule 29 = .ok (.getfield 29, 3) := by decide +kernel
theorem dX11_rule_32 : decode cX11_rule 32 = .ok (.iload_n 1, 1) := by decide +kernel
theorem dX11_rule_33 : decode cX11_rule 33 = .ok (.invokevirtual 177, 3) := by decide +kernel
theorem dX11_rule_36 : decode cX11_rule 36 = .ok (.aload_n 0, 1) := by decide +kernel
theorem dX11_rule_37 : decode cX11_rule 37 = .ok (.getfield 70, 3) := by decide +kernel
theorem dX11_rule_40 : decode cX11_rule 40 = .ok (.invokevirtual 198, 3) := by decide +kernel
theorem dX11_rule_43 : decode cX11_rule 43 = .ok (.ifCond .ne 10, 3) := by decide +kernel
theorem dX11_rule_53 : decode cX11_rule 53 = .ok (.aload_n 0, 1) := by decide +kernel
theorem dX11_rule_54 : decode cX11_rule 54 = .ok (.getfield 70, 3) := by decide +kernel
theorem dX11_rule_57 : decode cX11_rule 57 = .ok (.getfield 199, 3) := by decide +kernel
theorem dX11_rule_60 : decode cX11_rule 60 = .ok (.aload_n 0, 1) := by decide +kernel
theorem dX11_rule_61 : decode cX11_rule 61 = .ok (.getfield 52, 3) := by decide +kernel
theorem dX11_rule_64 : decode cX11_rule 64 = .ok (.invokestatic 201, 3) := by decide +kernel
theorem dX11_rule_67 : decode cX11_rule 67 = .ok (.aload_n 0, 1) := by decide +kernel
theorem dX11_rule_68 : decode cX11_rule 68 = .ok (.aload_n 0, 1) := by decide +kernel
theorem dX11_rule_69 : decode cX11_rule 69 = .ok (.getfield 52, 3) := by decide +kernel
theorem dX11_rule_72 : decode cX11_rule 72 = .ok (.getfield 204, 3) := by decide +kernel
theorem dX11_rule_75 : decode cX11_rule 75 = .ok (.invokevirtual 195, 3) := by decide +kernel
theorem dX11_rule_78 : decode cX11_rule 78 = .ok (.ireturn, 1) := by decide +kernel
theorem dX11_searched_0 : decode cX11_searched 0 = .ok (.aload_n 0, 1) := by decide +kernel
theorem dX11_searched_1 : decode cX11_searched 1 = .ok (.getfield 36, 3) := by decide +kernel
theorem dX11_searched_4 : decode cX11_searched 4 = .ok (.iload_n 1, 1) := by decide +kernel
theorem dX11_searched_5 : decode cX11_searched 5 = .ok (.invokevirtual 266, 3) := by decide +kernel
theorem dX11_searched_8 : decode cX11_searched 8 = .ok (.ifCond .eq 14, 3) := by decide +kernel
theorem dX11_searched_22 : decode cX11_searched 22 = .ok (.aload_n 0, 1) := by decide +kernel
theorem dX11_searched_23 : decode cX11_searched 23 = .ok (.iconst 2, 1) := by decide +kernel
theorem dX11_searched_24 : decode cX11_searched 24 = .ok (.invokevirtual 148, 3) := by decide +kernel
theorem dX11_searched_27 : decode cX11_searched 27 = .ok (.ireturn, 1) := by decide +kernel
theorem dX11_soon_0 : decode cX11_soon 0 = .ok (.aload_n 0, 1) := by decide +kernel
theorem dX11_soon_1 : decode cX11_soon 1 = .ok (.getfield 36, 3) := by decide +kernel
theorem dX11_soon_4 : decode cX11_soon 4 = .ok (.iload_n 1, 1) := by decide +kernel
theorem dX11_soon_5 : decode cX11_soon 5 = .ok (.invokevirtual 250, 3) := by decide +kernel
theorem dX11_soon_8 : decode cX11_soon 8 = .ok (.ifCond .eq 14, 3) := by decide +kernel
theorem dX11_soon_22 : decode cX11_soon 22 = .ok (.aload_n 0, 1) := by decide +kernel
theorem dX11_soon_23 : decode cX11_soon 23 = .ok (.iconst 2, 1) := by decide +kernel
theorem dX11_soon_24 : decode cX11_soon 24 = .ok (.invokevirtual 148, 3) := by decide +kernel
theorem dX11_soon_27 : decode cX11_soon 27 = .ok (.ireturn, 1) := by decide +kernel
theorem dX11_status_0 : decode cX11_status 0 = .ok (.aload_n 0, 1) := by decide +kernel
theorem dX11_status_1 : decode cX11_status 1 = .ok (.getfield 9, 3) := by decide +kernel
theorem dX11_status_4 : decode cX11_status 4 = .ok (.ireturn, 1) := by decide +kernel
theorem dX11_stepOf_0 : decode cX11_stepOf 0 = .ok (.aload_n 0, 1) := by decide +kernel
theorem dX11_stepOf_1 : decode cX11_stepOf 1 = .ok (.getfield 36, 3) := by decide +kernel
theorem dX11_stepOf_4 : decode cX11_stepOf 4 = .ok (.iload_n 1, 1) := by decide +kernel
theorem dX11_stepOf_5 : decode cX11_stepOf 5 = .ok (.invokevirtual 250, 3) := by decide +kernel
theorem dX11_stepOf_8 : decode cX11_stepOf 8 = .ok (.ifCond .eq 14, 3) := by decide +kernel
theorem dX11_stepOf_22 : decode cX11_stepOf 22 = .ok (.aload_n 0, 1) := by decide +kernel
theorem dX11_stepOf_23 : decode cX11_stepOf 23 = .ok (.iconst 2, 1) := by decide +kernel
theorem dX11_stepOf_24 : decode cX11_stepOf 24 = .ok (.invokevirtual 148, 3) := by decide +kernel
theorem dX11_stepOf_27 : decode cX11_stepOf 27 = .ok (.ireturn, 1) := by decide +kernel
theorem dX11_take_0 : decode cX11_take 0 = .ok (.aload_n 0, 1) := by decide +kernel
theorem dX11_take_1 : decode cX11_take 1 = .ok (.getfield 36, 3) := by decide +kernel
theorem dX11_take_4 : decode cX11_take 4 = .ok (.iload_n 1, 1) := by decide +kernel
theorem dX11_take_5 : decode cX11_take 5 = .ok (.invokevirtual 266, 3) := by decide +kernel
theorem dX11_take_8 : decode cX11_take 8 = .ok (.ifCond .ne 9, 3) := by decide +kernel
theorem dX11_take_11 : decode cX11_take 11 = .ok (.aload_n 0, 1) := by decide +kernel
theorem dX11_take_12 : decode cX11_take 12 = .ok (.iconst 2, 1) := by decide +kernel
theorem dX11_take_13 : decode cX11_take 13 = .ok (.invokevirtual 126, 3) := by decide +kernel
theorem dX11_take_16 : decode cX11_take 16 = .ok (.ireturn, 1) := by decide +kernel
theorem dX11_tally_0 : decode cX11_tally 0 = .ok (.aload_n 0, 1) := by decide +kernel
theorem dX11_tally_1 : decode cX11_tally 1 = .ok (.getfield 36, 3) := by decide +kernel
theorem dX11_tally_4 : decode cX11_tally 4 = .ok (.iload_n 1, 1) := by decide +kernel
theorem dX11_tally_5 : decode cX11_tally 5 = .ok (.invokevirtual 266, 3) := by decide +kernel
theorem dX11_tally_8 : decode cX11_tally 8 = .ok (.ifCond .eq 14, 3) := by decide +kernel
theorem dX11_tally_22 : decode cX11_tally 22 = .ok (.aload_n 0, 1) := by decide +kernel
theorem dX11_tally_23 : decode cX11_tally 23 = .ok (.iconst 2, 1) := by decide +kernel
theorem dX11_tally_24 : decode cX11_tally 24 = .ok (.invokevirtual 148, 3) := by decide +kernel
theorem dX11_tally_27 : decode cX11_tally 27 = .ok (.ireturn, 1) := by decide +kernel
theorem dX11_top_0 : decode cX11_top 0 = .ok (.aload_n 0, 1) := by decide +kernel
theorem dX11_top_1 : decode cX11_top 1 = .ok (.getfield 13, 3) := by decide +kernel
theorem dX11_top_4 : decode cX11_top 4 = .ok (.lreturn, 1) := by decide +kernel
theorem dX11_tray_0 : decode cX11_tray 0 = .ok (.aload_n 0, 1) := by decide +kernel
theorem dX11_tray_1 : decode cX11_tray 1 = .ok (.iload_n 1, 1) := by decide +kernel
theorem dX11_tray_2 : decode cX11_tray 2 = .ok (.invokevirtual 122, 3) := by decide +kernel
theorem dX11_tray_5 : decode cX11_tray 5 = .ok (.astore 4, 2) := by decide +kernel
theorem dX11_tray_7 : decode cX11_tray 7 = .ok (.aload 4, 2) := by decide +kernel
theorem dX11_tray_9 : decode cX11_tray 9 = .ok (.ifnull 12, 3) := by decide +kernel
theorem dX11_tray_12 : decode cX11_tray 12 = .ok (.iload_n 2, 1) := by decide +kernel
theorem dX11_tray_13 : decode cX11_tray 13 = .ok (.ifCond .lt 8, 3) := by decide +kernel
theorem dX11_tray_16 : decode cX11_tray 16 = .ok (.iload_n 2, 1) := by decide +kernel
theorem dX11_tray_17 : decode cX11_tray 17 = .ok (.iconst 3, 1) := by decide +kernel
theorem dX11_tray_18 : decode cX11_tray 18 = .ok (.if_icmp .le 9, 3) := by decide +kernel
theorem dX11_tray_21 : decode cX11_tray 21 = .ok (.aload_n 0, 1) := by decide +kernel
theorem dX11_tray_22 : decode cX11_tray 22 = .ok (.iconst 1, 1) := by decide +kernel
theorem dX11_tray_23 : decode cX11_tray 23 = .ok (.invokevirtual 126, 3) := by decide +kernel
theorem dX11_tray_26 : decode cX11_tray 26 = .ok (.ireturn, 1) := by decide +kernel
theorem dX11_tray_27 : decode cX11_tray 27 = .ok (.iload_n 3, 1) := by decide +kernel
theorem dX11_tray_28 : decode cX11_tray 28 = .ok (.bipush 60, 2) := by decide +kernel
theorem dX11_tray_30 : decode cX11_tray 30 = .ok (.if_icmp .le 9, 3) := by decide +kernel
theorem dX11_tray_33 : decode cX11_tray 33 = .ok (.aload_n 0, 1) := by decide +kernel
theorem dX11_tray_34 : decode cX11_tray 34 = .ok (.iconst 5, 1) := by decide +kernel
theorem dX11_tray_35 : decode cX11_tray 35 = .ok (.invokevirtual 126, 3) := by decide +kernel
theorem dX11_tray_38 : decode cX11_tray 38 = .ok (.ireturn, 1) := by decide +kernel
theorem dX11_tray_39 : decode cX11_tray 39 = .ok (.iload_n 3, 1) := by decide +kernel
theorem dX11_tray_40 : decode cX11_tray 40 = .ok (.ifCond .ge 10, 3) := by decide +kernel
theorem dX11_tray_43 : decode cX11_tray 43 = .ok (.aload_n 0, 1) := by decide +kernel
theorem dX11_tray_44 : decode cX11_tray 44 = .ok (.bipush 6, 2) := by decide +kernel
theorem dX11_tray_46 : decode cX11_tray 46 = .ok (.invokevirtual 126, 3) := by decide +kernel
theorem dX11_tray_49 : decode cX11_tray 49 = .ok (.ireturn, 1) := by decide +kernel
theorem dX11_tray_50 : decode cX11_tray 50 = .ok (.aload 4, 2) := by decide +kernel
theorem dX11_tray_52 : decode cX11_tray 52 = .ok (.iload_n 2, 1) := by decide +kernel
theorem dX11_tray_53 : decode cX11_tray 53 = .ok (.iload_n 3, 1) := by decide +kernel
theorem dX11_tray_54 : decode cX11_tray 54 = .ok (.invokevirtual 130, 3) := by decide +kernel
theorem dX11_tray_57 : decode cX11_tray 57 = .ok (.aload_n 0, 1) := by decide +kernel
theorem dX11_tray_58 : decode cX11_tray 58 = .ok (.invokevirtual 134, 3) := by decide +kernel
theorem dX11_tray_61 : decode cX11_tray 61 = .ok (.ireturn, 1) := by decide +kernel
theorem dX11_trayAt_0 : decode cX11_trayAt 0 = .ok (.iload_n 1, 1) := by decide +kernel
theorem dX11_trayAt_1 : decode cX11_trayAt 1 = .ok (.ifCond .lt 21, 3) := by decide +kernel
theorem dX11_trayAt_4 : decode cX11_trayAt 4 = .ok (.iload_n 1, 1) := by decide +kernel
theorem dX11_trayAt_5 : decode cX11_trayAt 5 = .ok (.aload_n 0, 1) := by decide +kernel
theorem dX11_trayAt_6 : decode cX11_trayAt 6 = .ok (.getfield 22, 3) := by decide +kernel
theorem dX11_trayAt_9 : decode cX11_trayAt 9 = .ok (.arraylength, 1) := by decide +kernel
theorem dX11_trayAt_10 : decode cX11_trayAt 10 = .ok (.if_icmp .ge 12, 3) := by decide +kernel
theorem dX11_trayAt_13 : decode cX11_trayAt 13 = .ok (.aload_n 0, 1) := by decide +kernel
theorem dX11_trayAt_14 : decode cX11_trayAt 14 = .ok (.getfield 22, 3) := by decide +kernel
theorem dX11_trayAt_17 : decode cX11_trayAt 17 = .ok (.iload_n 1, 1) := by decide +kernel
theorem dX11_trayAt_18 : decode cX11_trayAt 18 = .ok (.aaload, 1) := by decide +kernel
theorem dX11_trayAt_19 : decode cX11_trayAt 19 = .ok (.goto 4, 3) := by decide +kernel
theorem dX11_trayAt_22 : decode cX11_trayAt 22 = .ok (.aconst_null, 1) := by decide +kernel
theorem dX11_trayAt_23 : decode cX11_trayAt 23 = .ok (.areturn, 1) := by decide +kernel
theorem dX11_tried_0 : decode cX11_tried 0 = .ok (.aload_n 0, 1) := by decide +kernel
theorem dX11_tried_1 : decode cX11_tried 1 = .ok (.getfield 36, 3) := by decide +kernel
theorem dX11_tried_4 : decode cX11_tried 4 = .ok (.iload_n 1, 1) := by decide +kernel
theorem dX11_tried_5 : decode cX11_tried 5 = .ok (.invokevirtual 275, 3) := by decide +kernel
theorem dX11_tried_8 : decode cX11_tried 8 = .ok (.ifCond .ne 9, 3) := by decide +kernel
theorem dX11_tried_11 : decode cX11_tried 11 = .ok (.aload_n 0, 1) := by decide +kernel
theorem dX11_tried_12 : decode cX11_tried 12 = .ok (.iconst 2, 1) := by decide +kernel
theorem dX11_tried_13 : decode cX11_tried 13 = .ok (.invokevirtual 126, 3) := by decide +kernel
theorem dX11_tried_16 : decode cX11_tried 16 = .ok (.ireturn, 1) := by decide +kernel
theorem dX11_turn_0 : decode cX11_turn 0 = .ok (.aload_n 0, 1) := by decide +kernel
theorem dX11_turn_1 : decode cX11_turn 1 = .ok (.getfield 45, 3) := by decide +kernel
theorem dX11_turn_4 : decode cX11_turn 4 = .ok (.invokevirtual 320, 3) := by decide +kernel
theorem dX11_turn_7 : decode cX11_turn 7 = .ok (.ifCond .ne 10, 3) := by decide +kernel
theorem dX11_turn_10 : decode cX11_turn 10 = .ok (.aload_n 0, 1) := by decide +kernel
theorem dX11_turn_11 : decode cX11_turn 11 = .ok (.bipush 8, 2) := by decide +kernel
theorem dX11_turn_13 : decode cX11_turn 13 = .ok (.invokevirtual 126, 3) := by decide +kernel
theorem dX11_turn_16 : decode cX11_turn 16 = .ok (.ireturn, 1) := by decide +kernel
theorem dX11_walked_0 : decode cX11_walked 0 = .ok (.aload_n 0, 1) := by decide +kernel
theorem dX11_walked_1 : decode cX11_walked 1 = .ok (.getfield 36, 3) := by decide +kernel
theorem dX11_walked_4 : decode cX11_walked 4 = .ok (.iload_n 1, 1) := by decide +kernel
theorem dX11_walked_5 : decode cX11_walked 5 = .ok (.invokevirtual 266, 3) := by decide +kernel
theorem dX11_walked_8 : decode cX11_walked 8 = .ok (.ifCond .ne 9, 3) := by decide +kernel
theorem dX11_walked_11 : decode cX11_walked 11 = .ok (.aload_n 0, 1) := by decide +kernel
theorem dX11_walked_12 : decode cX11_walked 12 = .ok (.iconst 2, 1) := by decide +kernel
theorem dX11_walked_13 : decode cX11_walked 13 = .ok (.invokevirtual 148, 3) := by decide +kernel
theorem dX11_walked_16 : decode cX11_walked 16 = .ok (.ireturn, 1) := by decide +kernel
theorem dX11_worth_0 : decode cX11_worth 0 = .ok (.aload_n 0, 1) := by decide +kernel
theorem dX11_worth_1 : decode cX11_worth 1 = .ok (.getfield 36, 3) := by decide +kernel
theorem dX11_worth_4 : decode cX11_worth 4 = .ok (.iload_n 1, 1) := by decide +kernel
theorem dX11_worth_5 : decode cX11_worth 5 = .ok (.invokevirtual 275, 3) := by decide +kernel
theorem dX11_worth_8 : decode cX11_worth 8 = .ok (.ifCond .ne 9, 3) := by decide +kernel
theorem dX11_worth_11 : decode cX11_worth 11 = .ok (.aload_n 0, 1) := by decide +kernel
theorem dX11_worth_12 : decode cX11_worth 12 = .ok (.iconst 2, 1) := by decide +kernel
theorem dX11_worth_13 : decode cX11_worth 13 = .ok (.invokevirtual 126, 3) := by decide +kernel
theorem dX11_worth_16 : decode cX11_worth 16 = .ok (.ireturn, 1) := by decide +kernel
theorem dX11_write_0 : decode cX11_write 0 = .ok (.aload_n 0, 1) := by decide +kernel
theorem dX11_write_1 : decode cX11_write 1 = .ok (.iload_n 1, 1) := by decide +kernel
theorem dX11_write_2 : decode cX11_write 2 = .ok (.invokevirtual 122, 3) := by decide +kernel
theorem dX11_write_5 : decode cX11_write 5 = .ok (.astore 5, 2) := by decide +kernel
theorem dX11_write_7 : decode cX11_write 7 = .ok (.aload 5, 2) := by decide +kernel
theorem dX11_write_9 : decode cX11_write 9 = .ok (.ifnonnull 9, 3) := by decide +kernel
theorem dX11_write_12 : decode cX11_write 12 = .ok (.aload_n 0, 1) := by decide +kernel
theorem dX11_write_13 : decode cX11_write 13 = .ok (.iconst 1, 1) := by decide +kernel
theorem dX11_write_14 : decode cX11_write 14 = .ok (.invokevirtual 126, 3) := by decide +kernel
theorem dX11_write_17 : decode cX11_write 17 = .ok (.ireturn, 1) := by decide +kernel
theorem dX11_write_18 : decode cX11_write 18 = .ok (.aload 5, 2) := by decide +kernel
theorem dX11_write_20 : decode cX11_write 20 = .ok (.invokevirtual 138, 3) := by decide +kernel
theorem dX11_write_23 : decode cX11_write 23 = .ok (.ifCond .eq 9, 3) := by decide +kernel
theorem dX11_write_26 : decode cX11_write 26 = .ok (.aload_n 0, 1) := by decide +kernel
theorem dX11_write_27 : decode cX11_write 27 = .ok (.iconst 3, 1) := by decide +kernel
theorem dX11_write_28 : decode cX11_write 28 = .ok (.invokevirtual 126, 3) := by decide +kernel
theorem dX11_write_31 : decode cX11_write 31 = .ok (.ireturn, 1) := by decide +kernel
theorem dX1_hasKept_0 : decode cX1_hasKept 0 = .ok (.iload_n 1, 1) := by decide +kernel
theorem dX1_hasKept_1 : decode cX1_hasKept 1 = .ok (.ifCond .lt 16, 3) := by decide +kernel
theorem dX1_hasKept_4 : decode cX1_hasKept 4 = .ok (.iload_n 1, 1) := by decide +kernel
theorem dX1_hasKept_5 : decode cX1_hasKept 5 = .ok (.aload_n 0, 1) := by decide +kernel
theorem dX1_hasKept_6 : decode cX1_hasKept 6 = .ok (.getfield 20, 3) := by decide +kernel
theorem dX1_hasKept_9 : decode cX1_hasKept 9 = .ok (.arraylength, 1) := by decide +kernel
theorem dX1_hasKept_10 : decode cX1_hasKept 10 = .ok (.if_icmp .ge 7, 3) := by decide +kernel
theorem dX1_hasKept_13 : decode cX1_hasKept 13 = .ok (.iconst 1, 1) := by decide +kernel
theorem dX1_hasKept_14 : decode cX1_hasKept 14 = .ok (.goto 4, 3) := by decide +kernel
theorem dX1_hasKept_17 : decode cX1_hasKept 17 = .ok (.iconst 0, 1) := by decide +kernel
theorem dX1_hasKept_18 : decode cX1_hasKept 18 = .ok (.ireturn, 1) := by decide +kernel
theorem dX2_copy_0 : decode cX2_copy 0 = .ok (.aload_n 0, 1) := by decide +kernel
theorem dX2_copy_1 : decode cX2_copy 1 = .ok (.ifnull 7, 3) := by decide +kernel
theorem dX2_copy_4 : decode cX2_copy 4 = .ok (.aload_n 1, 1) := by decide +kernel
theorem dX2_copy_5 : decode cX2_copy 5 = .ok (.ifnonnull 4, 3) := by decide +kernel
theorem dX2_copy_9 : decode cX2_copy 9 = .ok (.aload_n 1, 1) := by decide +kernel
theorem dX2_copy_10 : decode cX2_copy 10 = .ok (.aload_n 0, 1) := by decide +kernel
theorem dX2_copy_11 : decode cX2_copy 11 = .ok (.getfield 49, 3) := by decide +kernel
theorem dX2_copy_14 : decode cX2_copy 14 = .ok (.putfield 49, 3) := by decide +kernel
theorem dX2_copy_17 : decode cX2_copy 17 = .ok (.aload_n 0, 1) := by decide +kernel
theorem dX2_copy_18 : decode cX2_copy 18 = .ok (.getfield 9, 3) := by decide +kernel
theorem dX2_copy_21 : decode cX2_copy 21 = .ok (.iconst 0, 1) := by decide +kernel
theorem dX2_copy_22 : decode cX2_copy 22 = .ok (.aload_n 1, 1) := by decide +kernel
theorem dX2_copy_23 : decode cX2_copy 23 = .ok (.getfield 9, 3) := by decide +kernel
theorem dX2_copy_26 : decode cX2_copy 26 = .ok (.iconst 0, 1) := by decide +kernel
theorem dX2_copy_27 : decode cX2_copy 27 = .ok (.iconst 3, 1) := by decide +kernel
theorem dX2_copy_28 : decode cX2_copy 28 = .ok (.invokestatic 75, 3) := by decide +kernel
theorem dX2_copy_31 : decode cX2_copy 31 = .ok (.aload_n 0, 1) := by decide +kernel
theorem dX2_copy_32 : decode cX2_copy 32 = .ok (.getfield 15, 3) := by decide +kernel
theorem dX2_copy_35 : decode cX2_copy 35 = .ok (.iconst 0, 1) := by decide +kernel
theorem dX2_copy_36 : decode cX2_copy 36 = .ok (.aload_n 1, 1) := by decide +kernel
theorem dX2_copy_37 : decode cX2_copy 37 = .ok (.getfield 15, 3) := by decide +kernel
theorem dX2_copy_40 : decode cX2_copy 40 = .ok (.iconst 0, 1) := by decide +kernel
theorem dX2_copy_41 : decode cX2_copy 41 = .ok (.iconst 3, 1) := by decide +kernel
theorem dX2_copy_42 : decode cX2_copy 42 = .ok (.invokestatic 75, 3) := by decide +kernel
theorem dX2_copy_45 : decode cX2_copy 45 = .ok (.aload_n 0, 1) := by decide +kernel
theorem dX2_copy_46 : decode cX2_copy 46 = .ok (.getfield 19, 3) := by decide +kernel
theorem dX2_copy_49 : decode cX2_copy 49 = .ok (.iconst 0, 1) := by decide +kernel
theorem dX2_copy_50 : decode cX2_copy 50 = .ok (.aload_n 1, 1) := by decide +kernel
theorem dX2_copy_51 : decode cX2_copy 51 = .ok (.getfield 19, 3) := by decide +kernel
theorem dX2_copy_54 : decode cX2_copy 54 = .ok (.iconst 0, 1) := by decide +kernel
theorem dX2_copy_55 : decode cX2_copy 55 = .ok (.iconst 3, 1) := by decide +kernel
theorem dX2_copy_56 : decode cX2_copy 56 = .ok (.invokestatic 75, 3) := by decide +kernel
theorem dX2_copy_59 : decode cX2_copy 59 = .ok (.aload_n 0, 1) := by decide +kernel
theorem dX2_copy_60 : decode cX2_copy 60 = .ok (.getfield 22, 3) := by decide +kernel
theorem dX2_copy_63 : decode cX2_copy 63 = .ok (.iconst 0, 1) := by decide +kernel
theorem dX2_copy_64 : decode cX2_copy 64 = .ok (.aload_n 1, 1) := by decide +kernel
theorem dX2_copy_65 : decode cX2_copy 65 = .ok (.getfield 22, 3) := by decide +kernel
theorem dX2_copy_68 : decode cX2_copy 68 = .ok (.iconst 0, 1) := by decide +kernel
theorem dX2_copy_69 : decode cX2_copy 69 = .ok (.bipush 48, 2) := by decide +kernel
theorem dX2_copy_71 : decode cX2_copy 71 = .ok (.invokestatic 75, 3) := by decide +kernel
theorem dX2_copy_74 : decode cX2_copy 74 = .ok (.aload_n 1, 1) := by decide +kernel
theorem dX2_copy_75 : decode cX2_copy 75 = .ok (.aload_n 0, 1) := by decide +kernel
theorem dX2_copy_76 : decode cX2_copy 76 = .ok (.getfield 53, 3) := by decide +kernel
theorem dX2_copy_79 : decode cX2_copy 79 = .ok (.putfield 53, 3) := by decide +kernel
theorem dX2_copy_82 : decode cX2_copy 82 = .ok (.aload_n 0, 1) := by decide +kernel
theorem dX2_copy_83 : decode cX2_copy 83 = .ok (.getfield 25, 3) := by decide +kernel
theorem dX2_copy_86 : decode cX2_copy 86 = .ok (.iconst 0, 1) := by decide +kernel
theorem dX2_copy_87 : decode cX2_copy 87 = .ok (.aload_n 1, 1) := by decide +kernel
theorem dX2_copy_88 : decode cX2_copy 88 = .ok (.getfield 25, 3) := by decide +kernel
theorem dX2_copy_91 : decode cX2_copy 91 = .ok (.iconst 0, 1) := by decide +kernel
theorem dX2_copy_92 : decode cX2_copy 92 = .ok (.bipush 30, 2) := by decide +kernel
theorem dX2_copy_94 : decode cX2_copy 94 = .ok (.invokestatic 75, 3) := by decide +kernel
theorem dX2_copy_97 : decode cX2_copy 97 = .ok (.aload_n 1, 1) := by decide +kernel
theorem dX2_copy_98 : decode cX2_copy 98 = .ok (.aload_n 0, 1) := by decide +kernel
theorem dX2_copy_99 : decode cX2_copy 99 = .ok (.getfield 56, 3) := by decide +kernel
theorem dX2_copy_102 : decode cX2_copy 102 = .ok (.putfield 56, 3) := by decide +kernel
theorem dX2_copy_105 : decode cX2_copy 105 = .ok (.aload_n 1, 1) := by decide +kernel
theorem dX2_copy_106 : decode cX2_copy 106 = .ok (.aload_n 0, 1) := by decide +kernel
theorem dX2_copy_107 : decode cX2_copy 107 = .ok (.getfield 59, 3) := by decide +kernel
theorem dX2_copy_110 : decode cX2_copy 110 = .ok (.putfield 59, 3) := by decide +kernel
theorem dX2_copy_113 : decode cX2_copy 113 = .ok (.aload_n 0, 1) := by decide +kernel
theorem dX2_copy_114 : decode cX2_copy 114 = .ok (.getfield 28, 3) := by decide +kernel
theorem dX2_copy_117 : decode cX2_copy 117 = .ok (.iconst 0, 1) := by decide +kernel
theorem dX2_copy_118 : decode cX2_copy 118 = .ok (.aload_n 1, 1) := by decide +kernel
theorem dX2_copy_119 : decode cX2_copy 119 = .ok (.getfield 28, 3) := by decide +kernel
theorem dX2_copy_122 : decode cX2_copy 122 = .ok (.iconst 0, 1) := by decide +kernel
theorem dX2_copy_123 : decode cX2_copy 123 = .ok (.bipush 30, 2) := by decide +kernel
theorem dX2_copy_125 : decode cX2_copy 125 = .ok (.invokestatic 75, 3) := by decide +kernel
theorem dX2_copy_128 : decode cX2_copy 128 = .ok (.aload_n 0, 1) := by decide +kernel
theorem dX2_copy_129 : decode cX2_copy 129 = .ok (.getfield 31, 3) := by decide +kernel
theorem dX2_copy_132 : decode cX2_copy 132 = .ok (.iconst 0, 1) := by decide +kernel
theorem dX2_copy_133 : decode cX2_copy 133 = .ok (.aload_n 1, 1) := by decide +kernel
theorem dX2_copy_134 : decode cX2_copy 134 = .ok (.getfield 31, 3) := by decide +kernel
theorem dX2_copy_137 : decode cX2_copy 137 = .ok (.iconst 0, 1) := by decide +kernel
theorem dX2_copy_138 : decode cX2_copy 138 = .ok (.iconst 3, 1) := by decide +kernel
theorem dX2_copy_139 : decode cX2_copy 139 = .ok (.invokestatic 75, 3) := by decide +kernel
theorem dX2_copy_142 : decode cX2_copy 142 = .ok (.aload_n 1, 1) := by decide +kernel
theorem dX2_copy_143 : decode cX2_copy 143 = .ok (.aload_n 0, 1) := by decide +kernel
theorem dX2_copy_144 : decode cX2_copy 144 = .ok (.getfield 62, 3) := by decide +kernel
theorem dX2_copy_147 : decode cX2_copy 147 = .ok (.putfield 62, 3) := by decide +kernel
theorem dX2_copy_150 : decode cX2_copy 150 = .ok (.aload_n 0, 1) := by decide +kernel
theorem dX2_copy_151 : decode cX2_copy 151 = .ok (.getfield 34, 3) := by decide +kernel
theorem dX2_copy_154 : decode cX2_copy 154 = .ok (.iconst 0, 1) := by decide +kernel
theorem dX2_copy_155 : decode cX2_copy 155 = .ok (.aload_n 1, 1) := by decide +kernel
theorem dX2_copy_156 : decode cX2_copy 156 = .ok (.getfield 34, 3) := by decide +kernel
theorem dX2_copy_159 : decode cX2_copy 159 = .ok (.iconst 0, 1) := by decide +kernel
theorem dX2_copy_160 : decode cX2_copy 160 = .ok (.iconst 5, 1) := by decide +kernel
theorem dX2_copy_161 : decode cX2_copy 161 = .ok (.invokestatic 75, 3) := by decide +kernel
theorem dX2_copy_164 : decode cX2_copy 164 = .ok (.aload_n 0, 1) := by decide +kernel
theorem dX2_copy_165 : decode cX2_copy 165 = .ok (.getfield 37, 3) := by decide +kernel
theorem dX2_copy_168 : decode cX2_copy 168 = .ok (.iconst 0, 1) := by decide +kernel
theorem dX2_copy_169 : decode cX2_copy 169 = .ok (.aload_n 1, 1) := by decide +kernel
theorem dX2_copy_170 : decode cX2_copy 170 = .ok (.getfield 37, 3) := by decide +kernel
theorem dX2_copy_173 : decode cX2_copy 173 = .ok (.iconst 0, 1) := by decide +kernel
theorem dX2_copy_174 : decode cX2_copy 174 = .ok (.iconst 5, 1) := by decide +kernel
theorem dX2_copy_175 : decode cX2_copy 175 = .ok (.invokestatic 75, 3) := by decide +kernel
theorem dX2_copy_178 : decode cX2_copy 178 = .ok (.aload_n 0, 1) := by decide +kernel
theorem dX2_copy_179 : decode cX2_copy 179 = .ok (.getfield 40, 3) := by decide +kernel
theorem dX2_copy_182 : decode cX2_copy 182 = .ok (.iconst 0, 1) := by decide +kernel
theorem dX2_copy_183 : decode cX2_copy 183 = .ok (.aload_n 1, 1) := by decide +kernel
theorem dX2_copy_184 : decode cX2_copy 184 = .ok (.getfield 40, 3) := by decide +kernel
theorem dX2_copy_187 : decode cX2_copy 187 = .ok (.iconst 0, 1) := by decide +kernel
theorem dX2_copy_188 : decode cX2_copy 188 = .ok (.iconst 4, 1) := by decide +kernel
theorem dX2_copy_189 : decode cX2_copy 189 = .ok (.invokestatic 75, 3) := by decide +kernel
theorem dX2_copy_192 : decode cX2_copy 192 = .ok (.aload_n 1, 1) := by decide +kernel
theorem dX2_copy_193 : decode cX2_copy 193 = .ok (.aload_n 0, 1) := by decide +kernel
theorem dX2_copy_194 : decode cX2_copy 194 = .ok (.getfield 69, 3) := by decide +kernel
theorem dX2_copy_197 : decode cX2_copy 197 = .ok (.putfield 69, 3) := by decide +kernel
theorem dX2_copy_200 : decode cX2_copy 200 = .ok (.aload_n 1, 1) := by decide +kernel
theorem dX2_copy_201 : decode cX2_copy 201 = .ok (.aload_n 0, 1) := by decide +kernel
theorem dX2_copy_202 : decode cX2_copy 202 = .ok (.getfield 72, 3) := by decide +kernel
theorem dX2_copy_205 : decode cX2_copy 205 = .ok (.putfield 72, 3) := by decide +kernel
theorem dX2_copy_208 : decode cX2_copy 208 = .ok (.aload_n 0, 1) := by decide +kernel
theorem dX2_copy_209 : decode cX2_copy 209 = .ok (.getfield 43, 3) := by decide +kernel
theorem dX2_copy_212 : decode cX2_copy 212 = .ok (.iconst 0, 1) := by decide +kernel
theorem dX2_copy_213 : decode cX2_copy 213 = .ok (.aload_n 1, 1) := by decide +kernel
theorem dX2_copy_214 : decode cX2_copy 214 = .ok (.getfield 43, 3) := by decide +kernel
theorem dX2_copy_217 : decode cX2_copy 217 = .ok (.iconst 0, 1) := by decide +kernel
theorem dX2_copy_218 : decode cX2_copy 218 = .ok (.bipush 12, 2) := by decide +kernel
theorem dX2_copy_220 : decode cX2_copy 220 = .ok (.invokestatic 75, 3) := by decide +kernel
theorem dX2_copy_223 : decode cX2_copy 223 = .ok (.return_, 1) := by decide +kernel
theorem dX3_readAll_0 : decode cX3_readAll 0 = .ok (.aload_n 0, 1) := by decide +kernel
theorem dX3_readAll_1 : decode cX3_readAll 1 = .ok (.getfield 12, 3) := by decide +kernel
theorem dX3_readAll_4 : decode cX3_readAll 4 = .ok (.invokevirtual 35, 3) := by decide +kernel
theorem dX3_readAll_7 : decode cX3_readAll 7 = .ok (.aload_n 0, 1) := by decide +kernel
theorem dX3_readAll_8 : decode cX3_readAll 8 = .ok (.iconst 0, 1) := by decide +kernel
theorem dX3_readAll_9 : decode cX3_readAll 9 = .ok (.putfield 38, 3) := by decide +kernel
theorem dX3_readAll_12 : decode cX3_readAll 12 = .ok (.aload_n 0, 1) := by decide +kernel
theorem dX3_readAll_13 : decode cX3_readAll 13 = .ok (.iconst 0, 1) := by decide +kernel
theorem dX3_readAll_14 : decode cX3_readAll 14 = .ok (.putfield 42, 3) := by decide +kernel
theorem dX3_readAll_17 : decode cX3_readAll 17 = .ok (.aload_n 0, 1) := by decide +kernel
theorem dX3_readAll_18 : decode cX3_readAll 18 = .ok (.iconst 0, 1) := by decide +kernel
theorem dX3_readAll_19 : decode cX3_readAll 19 = .ok (.putfield 45, 3) := by decide +kernel
theorem dX3_readAll_22 : decode cX3_readAll 22 = .ok (.aload_n 0, 1) := by decide +kernel
theorem dX3_readAll_23 : decode cX3_readAll 23 = .ok (.iconst 0, 1) := by decide +kernel
theorem dX3_readAll_24 : decode cX3_readAll 24 = .ok (.putfield 49, 3) := by decide +kernel
theorem dX3_readAll_27 : decode cX3_readAll 27 = .ok (.iconst 0, 1) := by decide +kernel
theorem dX3_readAll_28 : decode cX3_readAll 28 = .ok (.istore_n 1, 1) := by decide +kernel
theorem dX3_readAll_29 : decode cX3_readAll 29 = .ok (.iload_n 1, 1) := by decide +kernel
theorem dX3_readAll_30 : decode cX3_readAll 30 = .ok (.sipush 900, 3) := by decide +kernel
theorem dX3_readAll_33 : decode cX3_readAll 33 = .ok (.if_icmp .ge 24, 3) := by decide +kernel
theorem dX3_readAll_36 : decode cX3_readAll 36 = .ok (.aload_n 0, 1) := by decide +kernel
theorem dX3_readAll_37 : decode cX3_readAll 37 = .ok (.getfield 31, 3) := by decide +kernel
theorem dX3_readAll_40 : decode cX3_readAll 40 = .ok (.invokevirtual 54, 3) := by decide +kernel
theorem dX3_readAll_43 : decode cX3_readAll 43 = .ok (.ifCond .eq 14, 3) := by decide +kernel
theorem dX3_readAll_57 : decode cX3_readAll 57 = .ok (.aload_n 0, 1) := by decide +kernel
theorem dX3_readAll_58 : decode cX3_readAll 58 = .ok (.getfield 31, 3) := by decide +kernel
theorem dX3_readAll_61 : decode cX3_readAll 61 = .ok (.getfield 61, 3) := by decide +kernel
theorem dX3_readAll_64 : decode cX3_readAll 64 = .ok (.ifCond .ne 7, 3) := by decide +kernel
theorem dX3_readAll_67 : decode cX3_readAll 67 = .ok (.iconst 1, 1) := by decide +kernel
theorem dX3_readAll_68 : decode cX3_readAll 68 = .ok (.goto 4, 3) := by decide +kernel
theorem dX3_readAll_72 : decode cX3_readAll 72 = .ok (.ireturn, 1) := by decide +kernel
theorem dX5_clear_0 : decode cX5_clear 0 = .ok (.aload_n 0, 1) := by decide +kernel
theorem dX5_clear_1 : decode cX5_clear 1 = .ok (.iconst 0, 1) := by decide +kernel
theorem dX5_clear_2 : decode cX5_clear 2 = .ok (.putfield 11, 3) := by decide +kernel
theorem dX5_clear_5 : decode cX5_clear 5 = .ok (.aload_n 0, 1) := by decide +kernel
theorem dX5_clear_6 : decode cX5_clear 6 = .ok (.iconst 0, 1) := by decide +kernel
theorem dX5_clear_7 : decode cX5_clear 7 = .ok (.putfield 15, 3) := by decide +kernel
theorem dX5_clear_10 : decode cX5_clear 10 = .ok (.aload_n 0, 1) := by decide +kernel
theorem dX5_clear_11 : decode cX5_clear 11 = .ok (.iconst 0, 1) := by decide +kernel
theorem dX5_clear_12 : decode cX5_clear 12 = .ok (.putfield 18, 3) := by decide +kernel
theorem dX5_clear_15 : decode cX5_clear 15 = .ok (.return_, 1) := by decide +kernel
theorem dX5_copy_0 : decode cX5_copy 0 = .ok (.aload_n 0, 1) := by decide +kernel
theorem dX5_copy_1 : decode cX5_copy 1 = .ok (.ifnull 7, 3) := by decide +kernel
theorem dX5_copy_4 : decode cX5_copy 4 = .ok (.aload_n 1, 1) := by decide +kernel
theorem dX5_copy_5 : decode cX5_copy 5 = .ok (.ifnonnull 4, 3) := by decide +kernel
theorem dX5_copy_9 : decode cX5_copy 9 = .ok (.aload_n 1, 1) := by decide +kernel
theorem dX5_copy_10 : decode cX5_copy 10 = .ok (.aload_n 0, 1) := by decide +kernel
theorem dX5_copy_11 : decode cX5_copy 11 = .ok (.getfield 11, 3) := by decide +kernel
theorem dX5_copy_14 : decode cX5_copy 14 = .ok (.putfield 11, 3) := by decide +kernel
theorem dX5_copy_17 : decode cX5_copy 17 = .ok (.aload_n 1, 1) := by decide +kernel
theorem dX5_copy_18 : decode cX5_copy 18 = .ok (.aload_n 0, 1) := by decide +kernel
theorem dX5_copy_19 : decode cX5_copy 19 = .ok (.getfield 15, 3) := by decide +kernel
theorem dX5_copy_22 : decode cX5_copy 22 = .ok (.putfield 15, 3) := by decide +kernel
theorem dX5_copy_25 : decode cX5_copy 25 = .ok (.aload_n 1, 1) := by decide +kernel
theorem dX5_copy_26 : decode cX5_copy 26 = .ok (.aload_n 0, 1) := by decide +kernel
theorem dX5_copy_27 : decode cX5_copy 27 = .ok (.getfield 18, 3) := by decide +kernel
theorem dX5_copy_30 : decode cX5_copy 30 = .ok (.putfield 18, 3) := by decide +kernel
theorem dX5_copy_33 : decode cX5_copy 33 = .ok (.aload_n 0, 1) := by decide +kernel
theorem dX5_copy_34 : decode cX5_copy 34 = .ok (.getfield 22, 3) := by decide +kernel
theorem dX5_copy_37 : decode cX5_copy 37 = .ok (.iconst 0, 1) := by decide +kernel
theorem dX5_copy_38 : decode cX5_copy 38 = .ok (.aload_n 1, 1) := by decide +kernel
theorem dX5_copy_39 : decode cX5_copy 39 = .ok (.getfield 22, 3) := by decide +kernel
theorem dX5_copy_42 : decode cX5_copy 42 = .ok (.iconst 0, 1) := by decide +kernel
theorem dX5_copy_43 : decode cX5_copy 43 = .ok (.bipush 60, 2) := by decide +kernel
theorem dX5_copy_45 : decode cX5_copy 45 = .ok (.invokestatic 38, 3) := by decide +kernel
theorem dX5_copy_48 : decode cX5_copy 48 = .ok (.aload_n 0, 1) := by decide +kernel
theorem dX5_copy_49 : decode cX5_copy 49 = .ok (.getfield 26, 3) := by decide +kernel
theorem dX5_copy_52 : decode cX5_copy 52 = .ok (.iconst 0, 1) := by decide +kernel
theorem dX5_copy_53 : decode cX5_copy 53 = .ok (.aload_n 1, 1) := by decide +kernel
theorem dX5_copy_54 : decode cX5_copy 54 = .ok (.getfield 26, 3) := by decide +kernel
theorem dX5_copy_57 : decode cX5_copy 57 = .ok (.iconst 0, 1) := by decide +kernel
theorem dX5_copy_58 : decode cX5_copy 58 = .ok (.bipush 60, 2) := by decide +kernel
theorem dX5_copy_60 : decode cX5_copy 60 = .ok (.invokestatic 38, 3) := by decide +kernel
theorem dX5_copy_63 : decode cX5_copy 63 = .ok (.aload_n 0, 1) := by decide +kernel
theorem dX5_copy_64 : decode cX5_copy 64 = .ok (.getfield 29, 3) := by decide +kernel
theorem dX5_copy_67 : decode cX5_copy 67 = .ok (.iconst 0, 1) := by decide +kernel
theorem dX5_copy_68 : decode cX5_copy 68 = .ok (.aload_n 1, 1) := by decide +kernel
theorem dX5_copy_69 : decode cX5_copy 69 = .ok (.getfield 29, 3) := by decide +kernel
theorem dX5_copy_72 : decode cX5_copy 72 = .ok (.iconst 0, 1) := by decide +kernel
theorem dX5_copy_73 : decode cX5_copy 73 = .ok (.bipush 60, 2) := by decide +kernel
theorem dX5_copy_75 : decode cX5_copy 75 = .ok (.invokestatic 38, 3) := by decide +kernel
theorem dX5_copy_78 : decode cX5_copy 78 = .ok (.aload_n 0, 1) := by decide +kernel
theorem dX5_copy_79 : decode cX5_copy 79 = .ok (.getfield 32, 3) := by decide +kernel
theorem dX5_copy_82 : decode cX5_copy 82 = .ok (.iconst 0, 1) := by decide +kernel
theorem dX5_copy_83 : decode cX5_copy 83 = .ok (.aload_n 1, 1) := by decide +kernel
theorem dX5_copy_84 : decode cX5_copy 84 = .ok (.getfield 32, 3) := by decide +kernel
theorem dX5_copy_87 : decode cX5_copy 87 = .ok (.iconst 0, 1) := by decide +kernel
theorem dX5_copy_88 : decode cX5_copy 88 = .ok (.bipush 60, 2) := by decide +kernel
theorem dX5_copy_90 : decode cX5_copy 90 = .ok (.invokestatic 38, 3) := by decide +kernel
theorem dX5_copy_93 : decode cX5_copy 93 = .ok (.aload_n 0, 1) := by decide +kernel
theorem dX5_copy_94 : decode cX5_copy 94 = .ok (.getfield 35, 3) := by decide +kernel
theorem dX5_copy_97 : decode cX5_copy 97 = .ok (.iconst 0, 1) := by decide +kernel
theorem dX5_copy_98 : decode cX5_copy 98 = .ok (.aload_n 1, 1) := by decide +kernel
theorem dX5_copy_99 : decode cX5_copy 99 = .ok (.getfield 35, 3) := by decide +kernel
theorem dX5_copy_102 : decode cX5_copy 102 = .ok (.iconst 0, 1) := by decide +kernel
theorem dX5_copy_103 : decode cX5_copy 103 = .ok (.bipush 60, 2) := by decide +kernel
theorem dX5_copy_105 : decode cX5_copy 105 = .ok (.invokestatic 38, 3) := by decide +kernel
theorem dX5_copy_108 : decode cX5_copy 108 = .ok (.return_, 1) := by decide +kernel
theorem dX6_readAll_0 : decode cX6_readAll 0 = .ok (.aload_n 0, 1) := by decide +kernel
theorem dX6_readAll_1 : decode cX6_readAll 1 = .ok (.getfield 12, 3) := by decide +kernel
theorem dX6_readAll_4 : decode cX6_readAll 4 = .ok (.invokevirtual 30, 3) := by decide +kernel
theorem dX6_readAll_7 : decode cX6_readAll 7 = .ok (.aload_n 0, 1) := by decide +kernel
theorem dX6_readAll_8 : decode cX6_readAll 8 = .ok (.iconst 0, 1) := by decide +kernel
theorem dX6_readAll_9 : decode cX6_readAll 9 = .ok (.putfield 33, 3) := by decide +kernel
theorem dX6_readAll_12 : decode cX6_readAll 12 = .ok (.iconst 0, 1) := by decide +kernel
theorem dX6_readAll_13 : decode cX6_readAll 13 = .ok (.istore_n 1, 1) := by decide +kernel
theorem dX6_readAll_14 : decode cX6_readAll 14 = .ok (.iload_n 1, 1) := by decide +kernel
theorem dX6_readAll_15 : decode cX6_readAll 15 = .ok (.sipush 300, 3) := by decide +kernel
theorem dX6_readAll_18 : decode cX6_readAll 18 = .ok (.if_icmp .ge 24, 3) := by decide +kernel
theorem dX6_readAll_21 : decode cX6_readAll 21 = .ok (.aload_n 0, 1) := by decide +kernel
theorem dX6_readAll_22 : decode cX6_readAll 22 = .ok (.getfield 22, 3) := by decide +kernel
theorem dX6_readAll_25 : decode cX6_readAll 25 = .ok (.invokevirtual 37, 3) := by decide +kernel
theorem dX6_readAll_28 : decode cX6_readAll 28 = .ok (.ifCond .eq 14, 3) := by decide +kernel
theorem dX6_readAll_42 : decode cX6_readAll 42 = .ok (.aload_n 0, 1) := by decide +kernel
theorem dX6_readAll_43 : decode cX6_readAll 43 = .ok (.getfield 22, 3) := by decide +kernel
theorem dX6_readAll_46 : decode cX6_readAll 46 = .ok (.getfield 46, 3) := by decide +kernel
theorem dX6_readAll_49 : decode cX6_readAll 49 = .ok (.ifCond .ne 19, 3) := by decide +kernel
theorem dX6_readAll_52 : decode cX6_readAll 52 = .ok (.aload_n 0, 1) := by decide +kernel
theorem dX6_readAll_53 : decode cX6_readAll 53 = .ok (.getfield 33, 3) := by decide +kernel
theorem dX6_readAll_56 : decode cX6_readAll 56 = .ok (.ifCond .le 12, 3) := by decide +kernel
theorem dX6_readAll_68 : decode cX6_readAll 68 = .ok (.aload_n 0, 1) := by decide +kernel
theorem dX6_readAll_69 : decode cX6_readAll 69 = .ok (.getfield 22, 3) := by decide +kernel
theorem dX6_readAll_72 : decode cX6_readAll 72 = .ok (.getfield 46, 3) := by decide +kernel
theorem dX6_readAll_75 : decode cX6_readAll 75 = .ok (.ifCond .ne 7, 3) := by decide +kernel
theorem dX6_readAll_78 : decode cX6_readAll 78 = .ok (.iconst 1, 1) := by decide +kernel
theorem dX6_readAll_79 : decode cX6_readAll 79 = .ok (.goto 4, 3) := by decide +kernel
theorem dX6_readAll_83 : decode cX6_readAll 83 = .ok (.ireturn, 1) := by decide +kernel
theorem dX8_advance_0 : decode cX8_advance 0 = .ok (.aload_n 0, 1) := by decide +kernel
theorem dX8_advance_1 : decode cX8_advance 1 = .ok (.aload_n 0, 1) := by decide +kernel
theorem dX8_advance_2 : decode cX8_advance 2 = .ok (.getfield 28, 3) := by decide +kernel
theorem dX8_advance_5 : decode cX8_advance 5 = .ok (.putfield 37, 3) := by decide +kernel
theorem dX8_advance_8 : decode cX8_advance 8 = .ok (.aload_n 0, 1) := by decide +kernel
theorem dX8_advance_9 : decode cX8_advance 9 = .ok (.getfield 37, 3) := by decide +kernel
theorem dX8_advance_12 : decode cX8_advance 12 = .ok (.aload_n 0, 1) := by decide +kernel
theorem dX8_advance_13 : decode cX8_advance 13 = .ok (.getfield 25, 3) := by decide +kernel
theorem dX8_advance_16 : decode cX8_advance 16 = .ok (.if_icmp .ge 30, 3) := by decide +kernel
theorem dX8_advance_46 : decode cX8_advance 46 = .ok (.aload_n 0, 1) := by decide +kernel
theorem dX8_advance_47 : decode cX8_advance 47 = .ok (.aload_n 0, 1) := by decide +kernel
theorem dX8_advance_48 : decode cX8_advance 48 = .ok (.getfield 37, 3) := by decide +kernel
theorem dX8_advance_51 : decode cX8_advance 51 = .ok (.putfield 28, 3) := by decide +kernel
theorem dX8_advance_54 : decode cX8_advance 54 = .ok (.aload_n 0, 1) := by decide +kernel
theorem dX8_advance_55 : decode cX8_advance 55 = .ok (.aload_n 0, 1) := by decide +kernel
theorem dX8_advance_56 : decode cX8_advance 56 = .ok (.getfield 37, 3) := by decide +kernel
theorem dX8_advance_59 : decode cX8_advance 59 = .ok (.invokevirtual 40, 3) := by decide +kernel
theorem dX8_advance_62 : decode cX8_advance 62 = .ok (.istore_n 1, 1) := by decide +kernel
theorem dX8_advance_63 : decode cX8_advance 63 = .ok (.iload_n 1, 1) := by decide +kernel
theorem dX8_advance_64 : decode cX8_advance 64 = .ok (.iconst (-1), 1) := by decide +kernel
theorem dX8_advance_65 : decode cX8_advance 65 = .ok (.if_icmp .ne 11, 3) := by decide +kernel
theorem dX8_advance_68 : decode cX8_advance 68 = .ok (.aload_n 0, 1) := by decide +kernel
theorem dX8_advance_69 : decode cX8_advance 69 = .ok (.iconst 0, 1) := by decide +kernel
theorem dX8_advance_70 : decode cX8_advance 70 = .ok (.putfield 34, 3) := by decide +kernel
theorem dX8_advance_73 : decode cX8_advance 73 = .ok (.goto 67, 3) := by decide +kernel
theorem dX8_advance_140 : decode cX8_advance 140 = .ok (.return_, 1) := by decide +kernel
theorem dX8_append_0 : decode cX8_append 0 = .ok (.bipush 24, 2) := by decide +kernel
theorem dX8_append_2 : decode cX8_append 2 = .ok (.istore_n 2, 1) := by decide +kernel
theorem dX8_append_3 : decode cX8_append 3 = .ok (.iload_n 2, 1) := by decide +kernel
theorem dX8_append_4 : decode cX8_append 4 = .ok (.ifCond .lt 49, 3) := by decide +kernel
theorem dX8_append_7 : decode cX8_append 7 = .ok (.aload_n 0, 1) := by decide +kernel
theorem dX8_append_8 : decode cX8_append 8 = .ok (.getfield 15, 3) := by decide +kernel
theorem dX8_append_11 : decode cX8_append 11 = .ok (.ifCond .lt 36, 3) := by decide +kernel
theorem dX8_append_14 : decode cX8_append 14 = .ok (.aload_n 0, 1) := by decide +kernel
theorem dX8_append_15 : decode cX8_append 15 = .ok (.getfield 15, 3) := by decide +kernel
theorem dX8_append_18 : decode cX8_append 18 = .ok (.sipush 900, 3) := by decide +kernel
theorem dX8_append_21 : decode cX8_append 21 = .ok (.if_icmp .ge 26, 3) := by decide +kernel
theorem dX8_append_24 : decode cX8_append 24 = .ok (.aload_n 0, 1) := by decide +kernel
theorem dX8_append_25 : decode cX8_append 25 = .ok (.getfield 11, 3) := by decide +kernel
theorem dX8_append_28 : decode cX8_append 28 = .ok (.aload_n 0, 1) := by decide +kernel
theorem dX8_append_29 : decode cX8_append 29 = .ok (.getfield 15, 3) := by decide +kernel
theorem dX8_append_32 : decode cX8_append 32 = .ok (.iload_n 1, 1) := by decide +kernel
theorem dX8_append_33 : decode cX8_append 33 = .ok (.iload_n 2, 1) := by decide +kernel
theorem dX8_append_34 : decode cX8_append 34 = .ok (.ishr, 1) := by decide +kernel
theorem dX8_append_35 : decode cX8_append 35 = .ok (.i2b, 1) := by decide +kernel
theorem dX8_append_36 : decode cX8_append 36 = .ok (.bastore, 1) := by decide +kernel
theorem dX8_append_37 : decode cX8_append 37 = .ok (.aload_n 0, 1) := by decide +kernel
theorem dX8_append_38 : decode cX8_append 38 = .ok (.dup, 1) := by decide +kernel
theorem dX8_append_39 : decode cX8_append 39 = .ok (.getfield 15, 3) := by decide +kernel
theorem dX8_append_42 : decode cX8_append 42 = .ok (.iconst 1, 1) := by decide +kernel
theorem dX8_append_43 : decode cX8_append 43 = .ok (.iadd, 1) := by decide +kernel
theorem dX8_append_44 : decode cX8_append 44 = .ok (.putfield 15, 3) := by decide +kernel
theorem dX8_append_47 : decode cX8_append 47 = .ok (.iinc 2 (-8), 3) := by decide +kernel
theorem dX8_append_50 : decode cX8_append 50 = .ok (.goto (-47), 3) := by decide +kernel
theorem dX8_append_53 : decode cX8_append 53 = .ok (.return_, 1) := by decide +kernel
theorem dX8_begin_0 : decode cX8_begin 0 = .ok (.aload_n 0, 1) := by decide +kernel
theorem dX8_begin_1 : decode cX8_begin 1 = .ok (.iload_n 1, 1) := by decide +kernel
theorem dX8_begin_2 : decode cX8_begin 2 = .ok (.putfield 25, 3) := by decide +kernel
theorem dX8_begin_5 : decode cX8_begin 5 = .ok (.aload_n 0, 1) := by decide +kernel
theorem dX8_begin_6 : decode cX8_begin 6 = .ok (.iconst 0, 1) := by decide +kernel
theorem dX8_begin_7 : decode cX8_begin 7 = .ok (.putfield 15, 3) := by decide +kernel
theorem dX8_begin_10 : decode cX8_begin 10 = .ok (.aload_n 0, 1) := by decide +kernel
theorem dX8_begin_11 : decode cX8_begin 11 = .ok (.iconst 0, 1) := by decide +kernel
theorem dX8_begin_12 : decode cX8_begin 12 = .ok (.putfield 28, 3) := by decide +kernel
theorem dX8_begin_15 : decode cX8_begin 15 = .ok (.aload_n 0, 1) := by decide +kernel
theorem dX8_begin_16 : decode cX8_begin 16 = .ok (.iconst 0, 1) := by decide +kernel
theorem dX8_begin_17 : decode cX8_begin 17 = .ok (.putfield 19, 3) := by decide +kernel
theorem dX8_begin_20 : decode cX8_begin 20 = .ok (.aload_n 0, 1) := by decide +kernel
theorem dX8_begin_21 : decode cX8_begin 21 = .ok (.iconst (-1), 1) := by decide +kernel
theorem dX8_begin_22 : decode cX8_begin 22 = .ok (.putfield 22, 3) := by decide +kernel
theorem dX8_begin_25 : decode cX8_begin 25 = .ok (.aload_n 0, 1) := by decide +kernel
theorem dX8_begin_26 : decode cX8_begin 26 = .ok (.invokevirtual 31, 3) := by decide +kernel
theorem dX8_begin_29 : decode cX8_begin 29 = .ok (.return_, 1) := by decide +kernel
theorem dX8_byteAt_0 : decode cX8_byteAt 0 = .ok (.iload_n 1, 1) := by decide +kernel
theorem dX8_byteAt_1 : decode cX8_byteAt 1 = .ok (.ifCond .lt 31, 3) := by decide +kernel
theorem dX8_byteAt_4 : decode cX8_byteAt 4 = .ok (.iload_n 1, 1) := by decide +kernel
theorem dX8_byteAt_5 : decode cX8_byteAt 5 = .ok (.aload_n 0, 1) := by decide +kernel
theorem dX8_byteAt_6 : decode cX8_byteAt 6 = .ok (.getfield 25, 3) := by decide +kernel
theorem dX8_byteAt_9 : decode cX8_byteAt 9 = .ok (.if_icmp .ge 23, 3) := by decide +kernel
theorem dX8_byteAt_32 : decode cX8_byteAt 32 = .ok (.iconst (-1), 1) := by decide +kernel
theorem dX8_byteAt_33 : decode cX8_byteAt 33 = .ok (.ireturn, 1) := by decide +kernel
theorem dX8_goesOn_0 : decode cX8_goesOn 0 = .ok (.aload_n 0, 1) := by decide +kernel
theorem dX8_goesOn_1 : decode cX8_goesOn 1 = .ok (.getfield 19, 3) := by decide +kernel
theorem dX8_goesOn_4 : decode cX8_goesOn 4 = .ok (.ifCond .ne 14, 3) := by decide +kernel
theorem dX8_goesOn_7 : decode cX8_goesOn 7 = .ok (.aload_n 0, 1) := by decide +kernel
theorem dX8_goesOn_8 : decode cX8_goesOn 8 = .ok (.getfield 34, 3) := by decide +kernel
theorem dX8_goesOn_11 : decode cX8_goesOn 11 = .ok (.ifCond .eq 7, 3) := by decide +kernel
theorem dX8_goesOn_18 : decode cX8_goesOn 18 = .ok (.iconst 0, 1) := by decide +kernel
theorem dX8_goesOn_19 : decode cX8_goesOn 19 = .ok (.ireturn, 1) := by decide +kernel
theorem dX8_hasRoom_0 : decode cX8_hasRoom 0 = .ok (.aload_n 0, 1) := by decide +kernel
theorem dX8_hasRoom_1 : decode cX8_hasRoom 1 = .ok (.getfield 15, 3) := by decide +kernel
theorem dX8_hasRoom_4 : decode cX8_hasRoom 4 = .ok (.iload_n 1, 1) := by decide +kernel
theorem dX8_hasRoom_5 : decode cX8_hasRoom 5 = .ok (.iadd, 1) := by decide +kernel
theorem dX8_hasRoom_6 : decode cX8_hasRoom 6 = .ok (.sipush 900, 3) := by decide +kernel
theorem dX8_hasRoom_9 : decode cX8_hasRoom 9 = .ok (.if_icmp .gt 7, 3) := by decide +kernel
theorem dX8_hasRoom_12 : decode cX8_hasRoom 12 = .ok (.iconst 1, 1) := by decide +kernel
theorem dX8_hasRoom_13 : decode cX8_hasRoom 13 = .ok (.goto 4, 3) := by decide +kernel
theorem dX8_hasRoom_17 : decode cX8_hasRoom 17 = .ok (.ireturn, 1) := by decide +kernel
theorem dX9_copy_0 : decode cX9_copy 0 = .ok (.aload_n 0, 1) := by decide +kernel
theorem dX9_copy_1 : decode cX9_copy 1 = .ok (.ifnull 7, 3) := by decide +kernel
theorem dX9_copy_4 : decode cX9_copy 4 = .ok (.aload_n 1, 1) := by decide +kernel
theorem dX9_copy_5 : decode cX9_copy 5 = .ok (.ifnonnull 4, 3) := by decide +kernel
theorem dX9_copy_9 : decode cX9_copy 9 = .ok (.aload_n 1, 1) := by decide +kernel
theorem dX9_copy_10 : decode cX9_copy 10 = .ok (.aload_n 0, 1) := by decide +kernel
theorem dX9_copy_11 : decode cX9_copy 11 = .ok (.getfield 9, 3) := by decide +kernel
theorem dX9_copy_14 : decode cX9_copy 14 = .ok (.putfield 9, 3) := by decide +kernel
theorem dX9_copy_17 : decode cX9_copy 17 = .ok (.aload_n 1, 1) := by decide +kernel
theorem dX9_copy_18 : decode cX9_copy 18 = .ok (.aload_n 0, 1) := by decide +kernel
theorem dX9_copy_19 : decode cX9_copy 19 = .ok (.getfield 15, 3) := by decide +kernel
theorem dX9_copy_22 : decode cX9_copy 22 = .ok (.putfield 15, 3) := by decide +kernel
theorem dX9_copy_25 : decode cX9_copy 25 = .ok (.aload_n 0, 1) := by decide +kernel
theorem dX9_copy_26 : decode cX9_copy 26 = .ok (.getfield 18, 3) := by decide +kernel
theorem dX9_copy_29 : decode cX9_copy 29 = .ok (.iconst 0, 1) := by decide +kernel
theorem dX9_copy_30 : decode cX9_copy 30 = .ok (.aload_n 1, 1) := by decide +kernel
theorem dX9_copy_31 : decode cX9_copy 31 = .ok (.getfield 18, 3) := by decide +kernel
theorem dX9_copy_34 : decode cX9_copy 34 = .ok (.iconst 0, 1) := by decide +kernel
theorem dX9_copy_35 : decode cX9_copy 35 = .ok (.bipush 10, 2) := by decide +kernel
theorem dX9_copy_37 : decode cX9_copy 37 = .ok (.invokestatic 33, 3) := by decide +kernel
theorem dX9_copy_40 : decode cX9_copy 40 = .ok (.aload_n 0, 1) := by decide +kernel
theorem dX9_copy_41 : decode cX9_copy 41 = .ok (.getfield 22, 3) := by decide +kernel
theorem dX9_copy_44 : decode cX9_copy 44 = .ok (.iconst 0, 1) := by decide +kernel
theorem dX9_copy_45 : decode cX9_copy 45 = .ok (.aload_n 1, 1) := by decide +kernel
theorem dX9_copy_46 : decode cX9_copy 46 = .ok (.getfield 22, 3) := by decide +kernel
theorem dX9_copy_49 : decode cX9_copy 49 = .ok (.iconst 0, 1) := by decide +kernel
theorem dX9_copy_50 : decode cX9_copy 50 = .ok (.bipush 20, 2) := by decide +kernel
theorem dX9_copy_52 : decode cX9_copy 52 = .ok (.invokestatic 33, 3) := by decide +kernel
theorem dX9_copy_55 : decode cX9_copy 55 = .ok (.return_, 1) := by decide +kernel
theorem dX9_isHeld_0 : decode cX9_isHeld 0 = .ok (.aload_n 0, 1) := by decide +kernel
theorem dX9_isHeld_1 : decode cX9_isHeld 1 = .ok (.getfield 9, 3) := by decide +kernel
theorem dX9_isHeld_4 : decode cX9_isHeld 4 = .ok (.iconst (-1), 1) := by decide +kernel
theorem dX9_isHeld_5 : decode cX9_isHeld 5 = .ok (.if_icmp .eq 7, 3) := by decide +kernel
theorem dX9_isHeld_12 : decode cX9_isHeld 12 = .ok (.iconst 0, 1) := by decide +kernel
theorem dX9_isHeld_13 : decode cX9_isHeld 13 = .ok (.ireturn, 1) := by decide +kernel
theorem dX9_letGo_0 : decode cX9_letGo 0 = .ok (.aload_n 0, 1) := by decide +kernel
theorem dX9_letGo_1 : decode cX9_letGo 1 = .ok (.iconst (-1), 1) := by decide +kernel
theorem dX9_letGo_2 : decode cX9_letGo 2 = .ok (.putfield 9, 3) := by decide +kernel
theorem dX9_letGo_5 : decode cX9_letGo 5 = .ok (.return_, 1) := by decide +kernel
theorem lk_RX10_22 : zLS RX10 22 yJ7_fill_d0a16 cJ7_fill_d0a16 5 none 2 := ⟨tw_739, tw_740, tw_181, tw_741, ⟨by decide, by decide, by decide +kernel⟩⟩
theorem lk_RX11_122 : zLV RX11 122 yX11_trayAt cX11_trayAt 2 (some (.object "DarkRing$Tray")) 1 := ⟨tw_727, tw_729, tw_0, tw_168, tw_730, ⟨by decide, by decide, by decide +kernel⟩⟩
theorem lk_RX11_126 : zLV RX11 126 yX11_refused cX11_refused 2 (some .boolean) 1 := ⟨tw_731, tw_733, tw_1, tw_168, tw_734, ⟨by decide, by decide, by decide +kernel⟩⟩
theorem lk_RX11_130 : zLV RX11 130 yX10_fresh cX10_fresh 3 none 2 := ⟨tw_735, tw_736, tw_737, tw_179, tw_738, ⟨by decide, by decide, by decide +kernel⟩⟩
theorem lk_RX11_134 : zLV RX11 134 yX11_done cX11_done 1 (some .boolean) 0 := ⟨tw_742, tw_744, tw_2, tw_168, tw_745, ⟨by decide, by decide, by decide +kernel⟩⟩
theorem lk_RX11_138 : zLV RX11 138 yX10_isMissing cX10_isMissing 1 (some .boolean) 0 := ⟨tw_750, tw_751, tw_752, tw_179, tw_753, ⟨by decide, by decide, by decide +kernel⟩⟩
theorem lk_RX11_148 : zLV RX11 148 yX11_none cX11_none 2 (some .int) 1 := ⟨tw_773, tw_775, tw_4, tw_168, tw_776, ⟨by decide, by decide, by decide +kernel⟩⟩
theorem lk_RX11_167 : zLV RX11 167 yX8_hasRoom cX8_hasRoom 2 (some .boolean) 1 := ⟨tw_804, tw_805, tw_806, tw_169, tw_807, ⟨by decide, by decide, by decide +kernel⟩⟩
theorem lk_RX11_170 : zLV RX11 170 yX8_append cX8_append 3 none 1 := ⟨tw_808, tw_809, tw_810, tw_169, tw_811, ⟨by decide, by decide, by decide +kernel⟩⟩
theorem lk_RX11_177 : zLV RX11 177 yX8_begin cX8_begin 2 none 1 := ⟨tw_816, tw_817, tw_818, tw_169, tw_819, ⟨by decide, by decide, by decide +kernel⟩⟩
theorem lk_RX11_180 : zLV RX11 180 yX3_readAll cX3_readAll 2 (some .boolean) 0 := ⟨tw_850, tw_851, tw_852, tw_173, tw_853, ⟨by decide, by decide, by decide +kernel⟩⟩
theorem lk_RX11_185 : zLS RX11 185 yX2_copy cX2_copy 2 none 2 := ⟨tw_1108, tw_1109, tw_170, tw_1110, ⟨by decide, by decide, by decide +kernel⟩⟩
theorem lk_RX11_189 : zLV RX11 189 yX9_letGo cX9_letGo 1 none 0 := ⟨tw_1112, tw_1113, tw_1114, tw_171, tw_1115, ⟨by decide, by decide, by decide +kernel⟩⟩
theorem lk_RX11_195 : zLV RX11 195 yX11_told cX11_told 2 (some .int) 1 := ⟨tw_1116, tw_1118, tw_20, tw_168, tw_1119, ⟨by decide, by decide, by decide +kernel⟩⟩
theorem lk_RX11_198 : zLV RX11 198 yX6_readAll cX6_readAll 2 (some .boolean) 0 := ⟨tw_1124, tw_1125, tw_1126, tw_174, tw_1127, ⟨by decide, by decide, by decide +kernel⟩⟩
theorem lk_RX11_201 : zLS RX11 201 yX5_copy cX5_copy 2 none 2 := ⟨tw_1204, tw_1205, tw_172, tw_1206, ⟨by decide, by decide, by decide +kernel⟩⟩
theorem lk_RX11_225 : zLV RX11 225 yX2_secondsOf cX2_secondsOf 2 (some .int) 1 := ⟨tw_1216, tw_1217, tw_1218, tw_170, tw_1219, ⟨by decide, by decide, by decide +kernel⟩⟩
theorem lk_RX11_234 : zLV RX11 234 yX2_hasFeature cX2_hasFeature 2 (some .boolean) 1 := ⟨tw_1224, tw_1005, tw_1006, tw_170, tw_1007, ⟨by decide, by decide, by decide +kernel⟩⟩
theorem lk_RX11_243 : zLV RX11 243 yX2_hasStep cX2_hasStep 3 (some .boolean) 2 := ⟨tw_1234, tw_1235, tw_1236, tw_170, tw_1237, ⟨by decide, by decide, by decide +kernel⟩⟩
theorem lk_RX11_250 : zLV RX11 250 yX2_hasKey cX2_hasKey 2 (some .boolean) 1 := ⟨tw_1247, tw_1071, tw_1072, tw_170, tw_1073, ⟨by decide, by decide, by decide +kernel⟩⟩
theorem lk_RX11_266 : zLV RX11 266 yX2_hasRing cX2_hasRing 2 (some .boolean) 1 := ⟨tw_1273, tw_1040, tw_1041, tw_170, tw_1042, ⟨by decide, by decide, by decide +kernel⟩⟩
theorem lk_RX11_275 : zLV RX11 275 yX2_hasDoor cX2_hasDoor 2 (some .boolean) 1 := ⟨tw_1287, tw_1067, tw_1068, tw_170, tw_1069, ⟨by decide, by decide, by decide +kernel⟩⟩
theorem lk_RX11_320 : zLV RX11 320 yX9_isHeld cX9_isHeld 1 (some .boolean) 0 := ⟨tw_1370, tw_1371, tw_1372, tw_171, tw_1373, ⟨by decide, by decide, by decide +kernel⟩⟩
theorem lk_RX11_441 : zLV RX11 441 yX1_hasKept cX1_hasKept 2 (some .boolean) 1 := ⟨tw_1852, tw_1853, tw_1854, tw_178, tw_1855, ⟨by decide, by decide, by decide +kernel⟩⟩
theorem lk_RX11_453 : zLS RX11 453 yX9_copy cX9_copy 2 none 2 := ⟨tw_1868, tw_1869, tw_171, tw_1870, ⟨by decide, by decide, by decide +kernel⟩⟩
theorem lk_RX3_35 : zLV RX3 35 yX2_clear cX2_clear 1 none 0 := ⟨tw_854, tw_255, tw_256, tw_170, tw_257, ⟨by decide, by decide, by decide +kernel⟩⟩
theorem lk_RX3_54 : zLV RX3 54 yX8_goesOn cX8_goesOn 1 (some .boolean) 0 := ⟨tw_855, tw_856, tw_857, tw_169, tw_858, ⟨by decide, by decide, by decide +kernel⟩⟩
theorem lk_RX6_30 : zLV RX6 30 yX5_clear cX5_clear 1 none 0 := ⟨tw_1128, tw_1129, tw_1130, tw_172, tw_1131, ⟨by decide, by decide, by decide +kernel⟩⟩
theorem lk_RX6_37 : zLV RX6 37 yX8_goesOn cX8_goesOn 1 (some .boolean) 0 := ⟨tw_1132, tw_856, tw_857, tw_169, tw_858, ⟨by decide, by decide, by decide +kernel⟩⟩
theorem lk_RX8_31 : zLV RX8 31 yX8_advance cX8_advance 2 none 0 := ⟨tw_820, tw_821, tw_822, tw_169, tw_823, ⟨by decide, by decide, by decide +kernel⟩⟩
theorem lk_RX8_40 : zLV RX8 40 yX8_byteAt cX8_byteAt 2 (some .int) 1 := ⟨tw_824, tw_826, tw_5, tw_169, tw_827, ⟨by decide, by decide, by decide +kernel⟩⟩
