theorem tw_64 : (Cond.selects "DarkRingModel" yX12_empty yX12_empty : Cond) ∈ TB := tb_mem 64 (by decide +kernel) rfl
theorem tw_65 : (Cond.selects "DarkRingModel" yX12_no yX12_no : Cond) ∈ TB := tb_mem 65 (by decide +kernel) rfl
theorem tw_66 : (Cond.selects "DarkRingModel" yX12_placed yX12_placed : Cond) ∈ TB := tb_mem 66 (by decide +kernel) rfl
theorem tw_67 : (Cond.selects "DarkRingModel" yX12_trayed yX12_trayed : Cond) ∈ TB := tb_mem 67 (by decide +kernel) rfl
theorem tw_68 : (Cond.selects "DarkRingModel" yX12_layByte yX12_layByte : Cond) ∈ TB := tb_mem 68 (by decide +kernel) rfl
theorem tw_69 : (Cond.selects "DarkRingModel" yX12_begins yX12_begins : Cond) ∈ TB := tb_mem 69 (by decide +kernel) rfl
theorem tw_70 : (Cond.selects "DarkRingModel" yX12_next2 yX12_next2 : Cond) ∈ TB := tb_mem 70 (by decide +kernel) rfl
theorem tw_93 : (Cond.selects "DarkRingModel" yX12_isWell yX12_isWell : Cond) ∈ TB := tb_mem 93 (by decide +kernel) rfl
theorem tw_94 : (Cond.selects "DarkRingModel" yX12_refuse yX12_refuse : Cond) ∈ TB := tb_mem 94 (by decide +kernel) rfl
theorem tw_95 : (Cond.selects "DarkRingModel" yX12_isFeature yX12_isFeature : Cond) ∈ TB := tb_mem 95 (by decide +kernel) rfl
theorem tw_96 : (Cond.selects "DarkRingModel" yX12_isStep yX12_isStep : Cond) ∈ TB := tb_mem 96 (by decide +kernel) rfl
theorem tw_97 : (Cond.selects "DarkRingModel" yX12_isKey yX12_isKey : Cond) ∈ TB := tb_mem 97 (by decide +kernel) rfl
theorem tw_100 : (Cond.selects "DarkRingModel" yX12_isRing yX12_isRing : Cond) ∈ TB := tb_mem 100 (by decide +kernel) rfl
theorem tw_102 : (Cond.selects "DarkRingModel" yX12_isDoor yX12_isDoor : Cond) ∈ TB := tb_mem 102 (by decide +kernel) rfl
theorem tw_103 : (Cond.selects "DarkRingModel" yX12_isTray yX12_isTray : Cond) ∈ TB := tb_mem 103 (by decide +kernel) rfl
theorem tw_110 : (Cond.selects "DarkRingModel" yX12_isHeld yX12_isHeld : Cond) ∈ TB := tb_mem 110 (by decide +kernel) rfl
theorem tw_166 : (Cond.selects "DarkRingModel" yX12_copy yX12_copy : Cond) ∈ TB := tb_mem 166 (by decide +kernel) rfl
theorem tw_180 : (Cond.initialized "DarkRingModel" : Cond) ∈ TB := tb_mem 180 (by decide +kernel) rfl
theorem tw_1880 : (Cond.methodLink "DarkRingModel" 1 objectInit : Cond) ∈ TB := tb_mem 1880 (by decide +kernel) rfl
theorem tw_1881 : (Cond.methodLink "DarkRingModel" 78 yX12_empty : Cond) ∈ TB := tb_mem 1881 (by decide +kernel) rfl
theorem tw_1883 : (Cond.instanceMethod yX12_empty : Cond) ∈ TB := tb_mem 1883 (by decide +kernel) rfl
theorem tw_1884 : (Cond.code yX12_empty cX12_empty 3 none : Cond) ∈ TB := tb_mem 1884 (by decide +kernel) rfl
theorem tw_1885 : (Cond.fieldLink "DarkRingModel" 85 "DarkRingModel" "status" "I" : Cond) ∈ TB := tb_mem 1885 (by decide +kernel) rfl
theorem tw_1886 : (Cond.fieldLink "DarkRingModel" 82 "DarkRingModel" "thrown" "I" : Cond) ∈ TB := tb_mem 1886 (by decide +kernel) rfl
theorem tw_1887 : (Cond.fieldLink "DarkRingModel" 88 "DarkRingModel" "above" "J" : Cond) ∈ TB := tb_mem 1887 (by decide +kernel) rfl
theorem tw_1888 : (Cond.fieldLink "DarkRingModel" 7 "DarkRingModel" "under" "J" : Cond) ∈ TB := tb_mem 1888 (by decide +kernel) rfl
theorem tw_1889 : (Cond.fieldLink "DarkRingModel" 13 "DarkRingModel" "traySort" "[I" : Cond) ∈ TB := tb_mem 1889 (by decide +kernel) rfl
theorem tw_1890 : (Cond.fieldLink "DarkRingModel" 17 "DarkRingModel" "trayMany" "[I" : Cond) ∈ TB := tb_mem 1890 (by decide +kernel) rfl
theorem tw_1891 : (Cond.fieldLink "DarkRingModel" 20 "DarkRingModel" "numbers" "[J" : Cond) ∈ TB := tb_mem 1891 (by decide +kernel) rfl
theorem tw_1892 : (Cond.fieldLink "DarkRingModel" 24 "DarkRingModel" "tape" "[B" : Cond) ∈ TB := tb_mem 1892 (by decide +kernel) rfl
theorem tw_1893 : (Cond.fieldLink "DarkRingModel" 190 "DarkRingModel" "taped" "I" : Cond) ∈ TB := tb_mem 1893 (by decide +kernel) rfl
theorem tw_1894 : (Cond.fieldLink "DarkRingModel" 121 "DarkRingModel" "textEnd" "I" : Cond) ∈ TB := tb_mem 1894 (by decide +kernel) rfl
theorem tw_1895 : (Cond.fieldLink "DarkRingModel" 28 "DarkRingModel" "faultKind" "I" : Cond) ∈ TB := tb_mem 1895 (by decide +kernel) rfl
theorem tw_1896 : (Cond.fieldLink "DarkRingModel" 32 "DarkRingModel" "faultAt" "I" : Cond) ∈ TB := tb_mem 1896 (by decide +kernel) rfl
theorem tw_1897 : (Cond.fieldLink "DarkRingModel" 174 "DarkRingModel" "bad" "I" : Cond) ∈ TB := tb_mem 1897 (by decide +kernel) rfl
theorem tw_1899 : (Cond.fieldLink "DarkRingModel" 133 "DarkRingModel" "token" "I" : Cond) ∈ TB := tb_mem 1899 (by decide +kernel) rfl
theorem tw_1900 : (Cond.fieldLink "DarkRingModel" 127 "DarkRingModel" "at" "I" : Cond) ∈ TB := tb_mem 1900 (by decide +kernel) rfl
theorem tw_1901 : (Cond.fieldLink "DarkRingModel" 124 "DarkRingModel" "behind" "I" : Cond) ∈ TB := tb_mem 1901 (by decide +kernel) rfl
theorem tw_1905 : (Cond.fieldLink "DarkRingModel" 35 "DarkRingModel" "c" "[I" : Cond) ∈ TB := tb_mem 1905 (by decide +kernel) rfl
theorem tw_1906 : (Cond.fieldLink "DarkRingModel" 38 "DarkRingModel" "words" "[J" : Cond) ∈ TB := tb_mem 1906 (by decide +kernel) rfl
theorem tw_1907 : (Cond.fieldLink "DarkRingModel" 594 "DarkRingModel" "markMany" "I" : Cond) ∈ TB := tb_mem 1907 (by decide +kernel) rfl
theorem tw_1908 : (Cond.fieldLink "DarkRingModel" 41 "DarkRingModel" "there" "[I" : Cond) ∈ TB := tb_mem 1908 (by decide +kernel) rfl
theorem tw_1909 : (Cond.fieldLink "DarkRingModel" 44 "DarkRingModel" "tried" "[I" : Cond) ∈ TB := tb_mem 1909 (by decide +kernel) rfl
theorem tw_1910 : (Cond.fieldLink "DarkRingModel" 47 "DarkRingModel" "best" "[I" : Cond) ∈ TB := tb_mem 1910 (by decide +kernel) rfl
theorem tw_1911 : (Cond.fieldLink "DarkRingModel" 50 "DarkRingModel" "found" "[I" : Cond) ∈ TB := tb_mem 1911 (by decide +kernel) rfl
theorem tw_1913 : (Cond.fieldLink "DarkRingModel" 432 "DarkRingModel" "foundMany" "I" : Cond) ∈ TB := tb_mem 1913 (by decide +kernel) rfl
theorem tw_1919 : (Cond.fieldLink "DarkRingModel" 53 "DarkRingModel" "weights" "[J" : Cond) ∈ TB := tb_mem 1919 (by decide +kernel) rfl
theorem tw_1920 : (Cond.fieldLink "DarkRingModel" 56 "DarkRingModel" "shared" "[J" : Cond) ∈ TB := tb_mem 1920 (by decide +kernel) rfl
theorem tw_1933 : (Cond.fieldLink "DarkRingModel" 587 "DarkRingModel" "hasPlayed" "Z" : Cond) ∈ TB := tb_mem 1933 (by decide +kernel) rfl
theorem tw_1934 : (Cond.fieldLink "DarkRingModel" 59 "DarkRingModel" "feltNow" "[I" : Cond) ∈ TB := tb_mem 1934 (by decide +kernel) rfl
theorem tw_1935 : (Cond.fieldLink "DarkRingModel" 62 "DarkRingModel" "last" "[I" : Cond) ∈ TB := tb_mem 1935 (by decide +kernel) rfl
theorem tw_1936 : (Cond.fieldLink "DarkRingModel" 65 "DarkRingModel" "kept" "[I" : Cond) ∈ TB := tb_mem 1936 (by decide +kernel) rfl
theorem tw_1937 : (Cond.fieldLink "DarkRingModel" 223 "DarkRingModel" "hasSeconds" "Z" : Cond) ∈ TB := tb_mem 1937 (by decide +kernel) rfl
theorem tw_1938 : (Cond.fieldLink "DarkRingModel" 227 "DarkRingModel" "hasTurned" "Z" : Cond) ∈ TB := tb_mem 1938 (by decide +kernel) rfl
theorem tw_1939 : (Cond.fieldLink "DarkRingModel" 230 "DarkRingModel" "hasRound" "Z" : Cond) ∈ TB := tb_mem 1939 (by decide +kernel) rfl
theorem tw_1940 : (Cond.fieldLink "DarkRingModel" 68 "DarkRingModel" "hasFeels" "[Z" : Cond) ∈ TB := tb_mem 1940 (by decide +kernel) rfl
theorem tw_1941 : (Cond.fieldLink "DarkRingModel" 72 "DarkRingModel" "isOn" "[Z" : Cond) ∈ TB := tb_mem 1941 (by decide +kernel) rfl
theorem tw_1945 : (Cond.fieldLink "DarkRingModel" 75 "DarkRingModel" "order" "[I" : Cond) ∈ TB := tb_mem 1945 (by decide +kernel) rfl
theorem tw_1947 : (Cond.fieldLink "DarkRingModel" 509 "DarkRingModel" "newSteps" "I" : Cond) ∈ TB := tb_mem 1947 (by decide +kernel) rfl
theorem tw_2095 : (Cond.methodLink "DarkRingModel" 97 yX12_no : Cond) ∈ TB := tb_mem 2095 (by decide +kernel) rfl
theorem tw_2097 : (Cond.instanceMethod yX12_no : Cond) ∈ TB := tb_mem 2097 (by decide +kernel) rfl
theorem tw_2098 : (Cond.code yX12_no cX12_no 2 (some .boolean) : Cond) ∈ TB := tb_mem 2098 (by decide +kernel) rfl
theorem tw_2103 : (Cond.methodLink "DarkRingModel" 105 yX12_placed : Cond) ∈ TB := tb_mem 2103 (by decide +kernel) rfl
theorem tw_2105 : (Cond.instanceMethod yX12_placed : Cond) ∈ TB := tb_mem 2105 (by decide +kernel) rfl
theorem tw_2106 : (Cond.code yX12_placed cX12_placed 4 (some .int) : Cond) ∈ TB := tb_mem 2106 (by decide +kernel) rfl
theorem tw_2107 : (Cond.methodLink "DarkRingModel" 101 yX12_trayed : Cond) ∈ TB := tb_mem 2107 (by decide +kernel) rfl
theorem tw_2109 : (Cond.instanceMethod yX12_trayed : Cond) ∈ TB := tb_mem 2109 (by decide +kernel) rfl
theorem tw_2110 : (Cond.code yX12_trayed cX12_trayed 2 (some .int) : Cond) ∈ TB := tb_mem 2110 (by decide +kernel) rfl
theorem tw_2118 : (Cond.constantLong "DarkRingModel" 113 (-1) : Cond) ∈ TB := tb_mem 2118 (by decide +kernel) rfl
theorem tw_2127 : (Cond.methodLink "DarkRingModel" 193 yX12_layByte : Cond) ∈ TB := tb_mem 2127 (by decide +kernel) rfl
theorem tw_2129 : (Cond.instanceMethod yX12_layByte : Cond) ∈ TB := tb_mem 2129 (by decide +kernel) rfl
theorem tw_2130 : (Cond.code yX12_layByte cX12_layByte 3 none : Cond) ∈ TB := tb_mem 2130 (by decide +kernel) rfl
theorem tw_2139 : (Cond.methodLink "DarkRingModel" 233 yX12_begins : Cond) ∈ TB := tb_mem 2139 (by decide +kernel) rfl
theorem tw_2141 : (Cond.instanceMethod yX12_begins : Cond) ∈ TB := tb_mem 2141 (by decide +kernel) rfl
theorem tw_2142 : (Cond.code yX12_begins cX12_begins 3 (some .boolean) : Cond) ∈ TB := tb_mem 2142 (by decide +kernel) rfl
theorem tw_2143 : (Cond.methodLink "DarkRingModel" 184 yX12_next2 : Cond) ∈ TB := tb_mem 2143 (by decide +kernel) rfl
theorem tw_2145 : (Cond.instanceMethod yX12_next2 : Cond) ∈ TB := tb_mem 2145 (by decide +kernel) rfl
theorem tw_2146 : (Cond.code yX12_next2 cX12_next2 2 none : Cond) ∈ TB := tb_mem 2146 (by decide +kernel) rfl
theorem tw_2212 : (Cond.methodLink "DarkRingModel" 117 yX12_isIn : Cond) ∈ TB := tb_mem 2212 (by decide +kernel) rfl
theorem tw_2213 : (Cond.static yX12_isIn : Cond) ∈ TB := tb_mem 2213 (by decide +kernel) rfl
theorem tw_2214 : (Cond.code yX12_isIn cX12_isIn 6 (some .boolean) : Cond) ∈ TB := tb_mem 2214 (by decide +kernel) rfl
theorem tw_2251 : (Cond.methodLink "DarkRingModel" 261 yX12_isWell : Cond) ∈ TB := tb_mem 2251 (by decide +kernel) rfl
theorem tw_2253 : (Cond.instanceMethod yX12_isWell : Cond) ∈ TB := tb_mem 2253 (by decide +kernel) rfl
theorem tw_2254 : (Cond.code yX12_isWell cX12_isWell 1 (some .boolean) : Cond) ∈ TB := tb_mem 2254 (by decide +kernel) rfl
theorem tw_2259 : (Cond.constantLong "DarkRingModel" 267 10 : Cond) ∈ TB := tb_mem 2259 (by decide +kernel) rfl
theorem tw_2260 : (Cond.methodLink "DarkRingModel" 269 yX12_refuse : Cond) ∈ TB := tb_mem 2260 (by decide +kernel) rfl
theorem tw_2262 : (Cond.instanceMethod yX12_refuse : Cond) ∈ TB := tb_mem 2262 (by decide +kernel) rfl
theorem tw_2263 : (Cond.code yX12_refuse cX12_refuse 2 (some .int) : Cond) ∈ TB := tb_mem 2263 (by decide +kernel) rfl
theorem tw_2268 : (Cond.methodLink "DarkRingModel" 264 yX12_isFeature : Cond) ∈ TB := tb_mem 2268 (by decide +kernel) rfl
theorem tw_2270 : (Cond.instanceMethod yX12_isFeature : Cond) ∈ TB := tb_mem 2270 (by decide +kernel) rfl
theorem tw_2271 : (Cond.code yX12_isFeature cX12_isFeature 2 (some .boolean) : Cond) ∈ TB := tb_mem 2271 (by decide +kernel) rfl
theorem tw_2276 : (Cond.methodLink "DarkRingModel" 272 yX12_isStep : Cond) ∈ TB := tb_mem 2276 (by decide +kernel) rfl
theorem tw_2278 : (Cond.instanceMethod yX12_isStep : Cond) ∈ TB := tb_mem 2278 (by decide +kernel) rfl
theorem tw_2279 : (Cond.code yX12_isStep cX12_isStep 3 (some .boolean) : Cond) ∈ TB := tb_mem 2279 (by decide +kernel) rfl
theorem tw_2284 : (Cond.methodLink "DarkRingModel" 275 yX12_isKey : Cond) ∈ TB := tb_mem 2284 (by decide +kernel) rfl
theorem tw_2286 : (Cond.instanceMethod yX12_isKey : Cond) ∈ TB := tb_mem 2286 (by decide +kernel) rfl
theorem tw_2287 : (Cond.code yX12_isKey cX12_isKey 3 (some .boolean) : Cond) ∈ TB := tb_mem 2287 (by decide +kernel) rfl
theorem tw_2305 : (Cond.methodLink "DarkRingModel" 289 yX12_isRing : Cond) ∈ TB := tb_mem 2305 (by decide +kernel) rfl
theorem tw_2307 : (Cond.instanceMethod yX12_isRing : Cond) ∈ TB := tb_mem 2307 (by decide +kernel) rfl
theorem tw_2308 : (Cond.code yX12_isRing cX12_isRing 2 (some .boolean) : Cond) ∈ TB := tb_mem 2308 (by decide +kernel) rfl
theorem tw_2317 : (Cond.methodLink "DarkRingModel" 295 yX12_isDoor : Cond) ∈ TB := tb_mem 2317 (by decide +kernel) rfl
theorem tw_2319 : (Cond.instanceMethod yX12_isDoor : Cond) ∈ TB := tb_mem 2319 (by decide +kernel) rfl
theorem tw_2320 : (Cond.code yX12_isDoor cX12_isDoor 2 (some .boolean) : Cond) ∈ TB := tb_mem 2320 (by decide +kernel) rfl
theorem tw_2329 : (Cond.methodLink "DarkRingModel" 298 yX12_isTray : Cond) ∈ TB := tb_mem 2329 (by decide +kernel) rfl
theorem tw_2331 : (Cond.instanceMethod yX12_isTray : Cond) ∈ TB := tb_mem 2331 (by decide +kernel) rfl
theorem tw_2332 : (Cond.code yX12_isTray cX12_isTray 2 (some .boolean) : Cond) ∈ TB := tb_mem 2332 (by decide +kernel) rfl
theorem tw_2333 : (Cond.constantLong "DarkRingModel" 115 3 : Cond) ∈ TB := tb_mem 2333 (by decide +kernel) rfl
theorem tw_2379 : (Cond.methodLink "DarkRingModel" 323 yX12_isHeld : Cond) ∈ TB := tb_mem 2379 (by decide +kernel) rfl
theorem tw_2381 : (Cond.instanceMethod yX12_isHeld : Cond) ∈ TB := tb_mem 2381 (by decide +kernel) rfl
theorem tw_2382 : (Cond.code yX12_isHeld cX12_isHeld 1 (some .boolean) : Cond) ∈ TB := tb_mem 2382 (by decide +kernel) rfl
theorem tw_2723 : (Cond.constantLong "DarkRingModel" 590 6 : Cond) ∈ TB := tb_mem 2723 (by decide +kernel) rfl
theorem tw_2733 : (Cond.methodLink "DarkRingModel" 597 yX12_copy : Cond) ∈ TB := tb_mem 2733 (by decide +kernel) rfl
theorem tw_2735 : (Cond.instanceMethod yX12_copy : Cond) ∈ TB := tb_mem 2735 (by decide +kernel) rfl
theorem tw_2736 : (Cond.code yX12_copy cX12_copy 4 none : Cond) ∈ TB := tb_mem 2736 (by decide +kernel) rfl
theorem dX12_alike_0 : decode cX12_alike 0 = .ok (.aload_n 0, 1) := by decide +kernel
theorem dX12_alike_1 : decode cX12_alike 1 = .ok (.iconst 0, 1) := by decide +kernel
theorem dX12_alike_2 : decode cX12_alike 2 = .ok (.putfield 82, 3) := by decide +kernel
theorem dX12_alike_5 : decode cX12_alike 5 = .ok (.aload_n 0, 1) := by decide +kernel
theorem dX12_alike_6 : decode cX12_alike 6 = .ok (.iconst 0, 1) := by decide +kernel
theorem dX12_alike_7 : decode cX12_alike 7 = .ok (.putfield 85, 3) := by decide +kernel
theorem dX12_alike_10 : decode cX12_alike 10 = .ok (.aload_n 0, 1) := by decide +kernel
theorem dX12_alike_11 : decode cX12_alike 11 = .ok (.iload_n 1, 1) := by decide +kernel
theorem dX12_alike_12 : decode cX12_alike 12 = .ok (.invokevirtual 289, 3) := by decide +kernel
theorem dX12_alike_15 : decode cX12_alike 15 = .ok (.ifCond .ne 9, 3) := by decide +kernel
theorem dX12_alike_18 : decode cX12_alike 18 = .ok (.aload_n 0, 1) := by decide +kernel
theorem dX12_alike_19 : decode cX12_alike 19 = .ok (.iconst 2, 1) := by decide +kernel
theorem dX12_alike_20 : decode cX12_alike 20 = .ok (.invokevirtual 269, 3) := by decide +kernel
theorem dX12_alike_23 : decode cX12_alike 23 = .ok (.ireturn, 1) := by decide +kernel
theorem dX12_anywhere_0 : decode cX12_anywhere 0 = .ok (.aload_n 0, 1) := by decide +kernel
theorem dX12_anywhere_1 : decode cX12_anywhere 1 = .ok (.iconst 0, 1) := by decide +kernel
theorem dX12_anywhere_2 : decode cX12_anywhere 2 = .ok (.putfield 82, 3) := by decide +kernel
theorem dX12_anywhere_5 : decode cX12_anywhere 5 = .ok (.aload_n 0, 1) := by decide +kernel
theorem dX12_anywhere_6 : decode cX12_anywhere 6 = .ok (.iconst 0, 1) := by decide +kernel
theorem dX12_anywhere_7 : decode cX12_anywhere 7 = .ok (.putfield 85, 3) := by decide +kernel
theorem dX12_anywhere_10 : decode cX12_anywhere 10 = .ok (.aload_n 0, 1) := by decide +kernel
theorem dX12_anywhere_11 : decode cX12_anywhere 11 = .ok (.iload_n 1, 1) := by decide +kernel
theorem dX12_anywhere_12 : decode cX12_anywhere 12 = .ok (.invokevirtual 289, 3) := by decide +kernel
theorem dX12_anywhere_15 : decode cX12_anywhere 15 = .ok (.ifCond .ne 9, 3) := by decide +kernel
theorem dX12_anywhere_18 : decode cX12_anywhere 18 = .ok (.aload_n 0, 1) := by decide +kernel
theorem dX12_anywhere_19 : decode cX12_anywhere 19 = .ok (.iconst 2, 1) := by decide +kernel
theorem dX12_anywhere_20 : decode cX12_anywhere 20 = .ok (.invokevirtual 97, 3) := by decide +kernel
theorem dX12_anywhere_23 : decode cX12_anywhere 23 = .ok (.ireturn, 1) := by decide +kernel
theorem dX12_apart_0 : decode cX12_apart 0 = .ok (.aload_n 0, 1) := by decide +kernel
theorem dX12_apart_1 : decode cX12_apart 1 = .ok (.iconst 0, 1) := by decide +kernel
theorem dX12_apart_2 : decode cX12_apart 2 = .ok (.putfield 82, 3) := by decide +kernel
theorem dX12_apart_5 : decode cX12_apart 5 = .ok (.aload_n 0, 1) := by decide +kernel
theorem dX12_apart_6 : decode cX12_apart 6 = .ok (.iconst 0, 1) := by decide +kernel
theorem dX12_apart_7 : decode cX12_apart 7 = .ok (.putfield 85, 3) := by decide +kernel
theorem dX12_apart_10 : decode cX12_apart 10 = .ok (.aload_n 0, 1) := by decide +kernel
theorem dX12_apart_11 : decode cX12_apart 11 = .ok (.iload_n 1, 1) := by decide +kernel
theorem dX12_apart_12 : decode cX12_apart 12 = .ok (.invokevirtual 289, 3) := by decide +kernel
theorem dX12_apart_15 : decode cX12_apart 15 = .ok (.ifCond .ne 9, 3) := by decide +kernel
theorem dX12_apart_18 : decode cX12_apart 18 = .ok (.aload_n 0, 1) := by decide +kernel
theorem dX12_apart_19 : decode cX12_apart 19 = .ok (.iconst 2, 1) := by decide +kernel
theorem dX12_apart_20 : decode cX12_apart 20 = .ok (.invokevirtual 269, 3) := by decide +kernel
theorem dX12_apart_23 : decode cX12_apart 23 = .ok (.ireturn, 1) := by decide +kernel
theorem dX12_back_0 : decode cX12_back 0 = .ok (.aload_n 0, 1) := by decide +kernel
theorem dX12_back_1 : decode cX12_back 1 = .ok (.iconst 0, 1) := by decide +kernel
theorem dX12_back_2 : decode cX12_back 2 = .ok (.putfield 82, 3) := by decide +kernel
theorem dX12_back_5 : decode cX12_back 5 = .ok (.aload_n 0, 1) := by decide +kernel
theorem dX12_back_6 : decode cX12_back 6 = .ok (.iconst 0, 1) := by decide +kernel
theorem dX12_back_7 : decode cX12_back 7 = .ok (.putfield 85, 3) := by decide +kernel
theorem dX12_back_10 : decode cX12_back 10 = .ok (.aload_n 0, 1) := by decide +kernel
theorem dX12_back_11 : decode cX12_back 11 = .ok (.getfield 594, 3) := by decide +kernel
theorem dX12_back_14 : decode cX12_back 14 = .ok (.ifCond .ne 10, 3) := by decide +kernel
theorem dX12_back_17 : decode cX12_back 17 = .ok (.aload_n 0, 1) := by decide +kernel
theorem dX12_back_18 : decode cX12_back 18 = .ok (.bipush 8, 2) := by decide +kernel
theorem dX12_back_20 : decode cX12_back 20 = .ok (.invokevirtual 269, 3) := by decide +kernel
theorem dX12_back_23 : decode cX12_back 23 = .ok (.ireturn, 1) := by decide +kernel
theorem dX12_begins_0 : decode cX12_begins 0 = .ok (.iload_n 1, 1) := by decide +kernel
theorem dX12_begins_1 : decode cX12_begins 1 = .ok (.ifCond .lt 16, 3) := by decide +kernel
theorem dX12_begins_4 : decode cX12_begins 4 = .ok (.iload_n 1, 1) := by decide +kernel
theorem dX12_begins_5 : decode cX12_begins 5 = .ok (.aload_n 0, 1) := by decide +kernel
theorem dX12_begins_6 : decode cX12_begins 6 = .ok (.getfield 190, 3) := by decide +kernel
theorem dX12_begins_9 : decode cX12_begins 9 = .ok (.if_icmp .gt 8, 3) := by decide +kernel
theorem dX12_begins_12 : decode cX12_begins 12 = .ok (.iload_n 1, 1) := by decide +kernel
theorem dX12_begins_13 : decode cX12_begins 13 = .ok (.iload_n 2, 1) := by decide +kernel
theorem dX12_begins_14 : decode cX12_begins 14 = .ok (.if_icmp .le 9, 3) := by decide +kernel
theorem dX12_begins_17 : decode cX12_begins 17 = .ok (.aload_n 0, 1) := by decide +kernel
theorem dX12_begins_18 : decode cX12_begins 18 = .ok (.iconst 5, 1) := by decide +kernel
theorem dX12_begins_19 : decode cX12_begins 19 = .ok (.invokevirtual 97, 3) := by decide +kernel
theorem dX12_begins_22 : decode cX12_begins 22 = .ok (.ireturn, 1) := by decide +kernel
theorem dX12_begins_23 : decode cX12_begins 23 = .ok (.aload_n 0, 1) := by decide +kernel
theorem dX12_begins_24 : decode cX12_begins 24 = .ok (.iload_n 1, 1) := by decide +kernel
theorem dX12_begins_25 : decode cX12_begins 25 = .ok (.putfield 121, 3) := by decide +kernel
theorem dX12_begins_28 : decode cX12_begins 28 = .ok (.aload_n 0, 1) := by decide +kernel
theorem dX12_begins_29 : decode cX12_begins 29 = .ok (.iconst 0, 1) := by decide +kernel
theorem dX12_begins_30 : decode cX12_begins 30 = .ok (.putfield 190, 3) := by decide +kernel
theorem dX12_begins_33 : decode cX12_begins 33 = .ok (.aload_n 0, 1) := by decide +kernel
theorem dX12_begins_34 : decode cX12_begins 34 = .ok (.iconst 0, 1) := by decide +kernel
theorem dX12_begins_35 : decode cX12_begins 35 = .ok (.putfield 124, 3) := by decide +kernel
theorem dX12_begins_38 : decode cX12_begins 38 = .ok (.aload_n 0, 1) := by decide +kernel
theorem dX12_begins_39 : decode cX12_begins 39 = .ok (.iconst 0, 1) := by decide +kernel
theorem dX12_begins_40 : decode cX12_begins 40 = .ok (.putfield 174, 3) := by decide +kernel
theorem dX12_begins_43 : decode cX12_begins 43 = .ok (.aload_n 0, 1) := by decide +kernel
theorem dX12_begins_44 : decode cX12_begins 44 = .ok (.invokevirtual 184, 3) := by decide +kernel
theorem dX12_begins_47 : decode cX12_begins 47 = .ok (.iconst 1, 1) := by decide +kernel
theorem dX12_begins_48 : decode cX12_begins 48 = .ok (.ireturn, 1) := by decide +kernel
theorem dX12_bottom_0 : decode cX12_bottom 0 = .ok (.aload_n 0, 1) := by decide +kernel
theorem dX12_bottom_1 : decode cX12_bottom 1 = .ok (.iconst 0, 1) := by decide +kernel
theorem dX12_bottom_2 : decode cX12_bottom 2 = .ok (.putfield 82, 3) := by decide +kernel
theorem dX12_bottom_5 : decode cX12_bottom 5 = .ok (.aload_n 0, 1) := by decide +kernel
theorem dX12_bottom_6 : decode cX12_bottom 6 = .ok (.getfield 7, 3) := by decide +kernel
theorem dX12_bottom_9 : decode cX12_bottom 9 = .ok (.lreturn, 1) := by decide +kernel
theorem dX12_copy_0 : decode cX12_copy 0 = .ok (.iconst 0, 1) := by decide +kernel
theorem dX12_copy_1 : decode cX12_copy 1 = .ok (.istore_n 3, 1) := by decide +kernel
theorem dX12_copy_2 : decode cX12_copy 2 = .ok (.iload_n 3, 1) := by decide +kernel
theorem dX12_copy_3 : decode cX12_copy 3 = .ok (.sipush 365, 3) := by decide +kernel
theorem dX12_copy_6 : decode cX12_copy 6 = .ok (.if_icmp .ge 33, 3) := by decide +kernel
theorem dX12_copy_9 : decode cX12_copy 9 = .ok (.aload_n 0, 1) := by decide +kernel
theorem dX12_copy_10 : decode cX12_copy 10 = .ok (.getfield 35, 3) := by decide +kernel
theorem dX12_copy_13 : decode cX12_copy 13 = .ok (.sipush 365, 3) := by decide +kernel
theorem dX12_copy_16 : decode cX12_copy 16 = .ok (.iload_n 2, 1) := by decide +kernel
theorem dX12_copy_17 : decode cX12_copy 17 = .ok (.imul, 1) := by decide +kernel
theorem dX12_copy_18 : decode cX12_copy 18 = .ok (.iload_n 3, 1) := by decide +kernel
theorem dX12_copy_19 : decode cX12_copy 19 = .ok (.iadd, 1) := by decide +kernel
theorem dX12_copy_20 : decode cX12_copy 20 = .ok (.aload_n 0, 1) := by decide +kernel
theorem dX12_copy_21 : decode cX12_copy 21 = .ok (.getfield 35, 3) := by decide +kernel
theorem dX12_copy_24 : decode cX12_copy 24 = .ok (.sipush 365, 3) := by decide +kernel
theorem dX12_copy_27 : decode cX12_copy 27 = .ok (.iload_n 1, 1) := by decide +kernel
theorem dX12_copy_28 : decode cX12_copy 28 = .ok (.imul, 1) := by decide +kernel
theorem dX12_copy_29 : decode cX12_copy 29 = .ok (.iload_n 3, 1) := by decide +kernel
theorem dX12_copy_30 : decode cX12_copy 30 = .ok (.iadd, 1) := by decide +kernel
theorem dX12_copy_31 : decode cX12_copy 31 = .ok (.iaload, 1) := by decide +kernel
theorem dX12_copy_32 : decode cX12_copy 32 = .ok (.iastore, 1) := by decide +kernel
theorem dX12_copy_33 : decode cX12_copy 33 = .ok (.iinc 3 1, 3) := by decide +kernel
theorem dX12_copy_36 : decode cX12_copy 36 = .ok (.goto (-34), 3) := by decide +kernel
theorem dX12_copy_39 : decode cX12_copy 39 = .ok (.iconst 0, 1) := by decide +kernel
theorem dX12_copy_40 : decode cX12_copy 40 = .ok (.istore_n 3, 1) := by decide +kernel
theorem dX12_copy_41 : decode cX12_copy 41 = .ok (.iload_n 3, 1) := by decide +kernel
theorem dX12_copy_42 : decode cX12_copy 42 = .ok (.bipush 21, 2) := by decide +kernel
theorem dX12_copy_44 : decode cX12_copy 44 = .ok (.if_icmp .ge 31, 3) := by decide +kernel
theorem dX12_copy_47 : decode cX12_copy 47 = .ok (.aload_n 0, 1) := by decide +kernel
theorem dX12_copy_48 : decode cX12_copy 48 = .ok (.getfield 38, 3) := by decide +kernel
theorem dX12_copy_51 : decode cX12_copy 51 = .ok (.bipush 21, 2) := by decide +kernel
theorem dX12_copy_53 : decode cX12_copy 53 = .ok (.iload_n 2, 1) := by decide +kernel
theorem dX12_copy_54 : decode cX12_copy 54 = .ok (.imul, 1) := by decide +kernel
theorem dX12_copy_55 : decode cX12_copy 55 = .ok (.iload_n 3, 1) := by decide +kernel
theorem dX12_copy_56 : decode cX12_copy 56 = .ok (.iadd, 1) := by decide +kernel
theorem dX12_copy_57 : decode cX12_copy 57 = .ok (.aload_n 0, 1) := by decide +kernel
theorem dX12_copy_58 : decode cX12_copy 58 = .ok (.getfield 38, 3) := by decide +kernel
theorem dX12_copy_61 : decode cX12_copy 61 = .ok (.bipush 21, 2) := by decide +kernel
theorem dX12_copy_63 : decode cX12_copy 63 = .ok (.iload_n 1, 1) := by decide +kernel
theorem dX12_copy_64 : decode cX12_copy 64 = .ok (.imul, 1) := by decide +kernel
theorem dX12_copy_65 : decode cX12_copy 65 = .ok (.iload_n 3, 1) := by decide +kernel
theorem dX12_copy_66 : decode cX12_copy 66 = .ok (.iadd, 1) := by decide +kernel
theorem dX12_copy_67 : decode cX12_copy 67 = .ok (.laload, 1) := by decide +kernel
theorem dX12_copy_68 : decode cX12_copy 68 = .ok (.lastore, 1) := by decide +kernel
theorem dX12_copy_69 : decode cX12_copy 69 = .ok (.iinc 3 1, 3) := by decide +kernel
theorem dX12_copy_72 : decode cX12_copy 72 = .ok (.goto (-31), 3) := by decide +kernel
theorem dX12_copy_75 : decode cX12_copy 75 = .ok (.return_, 1) := by decide +kernel
theorem dX12_door_0 : decode cX12_door 0 = .ok (.aload_n 0, 1) := by decide +kernel
theorem dX12_door_1 : decode cX12_door 1 = .ok (.iconst 0, 1) := by decide +kernel
theorem dX12_door_2 : decode cX12_door 2 = .ok (.putfield 82, 3) := by decide +kernel
theorem dX12_door_5 : decode cX12_door 5 = .ok (.aload_n 0, 1) := by decide +kernel
theorem dX12_door_6 : decode cX12_door 6 = .ok (.iconst 0, 1) := by decide +kernel
theorem dX12_door_7 : decode cX12_door 7 = .ok (.putfield 85, 3) := by decide +kernel
theorem dX12_door_10 : decode cX12_door 10 = .ok (.aload_n 0, 1) := by decide +kernel
theorem dX12_door_11 : decode cX12_door 11 = .ok (.iload_n 1, 1) := by decide +kernel
theorem dX12_door_12 : decode cX12_door 12 = .ok (.invokevirtual 295, 3) := by decide +kernel
theorem dX12_door_15 : decode cX12_door 15 = .ok (.ifCond .ne 9, 3) := by decide +kernel
theorem dX12_door_18 : decode cX12_door 18 = .ok (.aload_n 0, 1) := by decide +kernel
theorem dX12_door_19 : decode cX12_door 19 = .ok (.iconst 2, 1) := by decide +kernel
theorem dX12_door_20 : decode cX12_door 20 = .ok (.invokevirtual 269, 3) := by decide +kernel
theorem dX12_door_23 : decode cX12_door 23 = .ok (.ireturn, 1) := by decide +kernel
theorem dX12_empty_0 : decode cX12_empty 0 = .ok (.iconst 0, 1) := by decide +kernel
theorem dX12_empty_1 : decode cX12_empty 1 = .ok (.istore_n 2, 1) := by decide +kernel
theorem dX12_empty_2 : decode cX12_empty 2 = .ok (.iload_n 2, 1) := by decide +kernel
theorem dX12_empty_3 : decode cX12_empty 3 = .ok (.sipush 180, 3) := by decide +kernel
theorem dX12_empty_6 : decode cX12_empty 6 = .ok (.if_icmp .ge 18, 3) := by decide +kernel
theorem dX12_empty_9 : decode cX12_empty 9 = .ok (.aload_n 0, 1) := by decide +kernel
theorem dX12_empty_10 : decode cX12_empty 10 = .ok (.getfield 35, 3) := by decide +kernel
theorem dX12_empty_13 : decode cX12_empty 13 = .ok (.iload_n 1, 1) := by decide +kernel
theorem dX12_empty_14 : decode cX12_empty 14 = .ok (.iload_n 2, 1) := by decide +kernel
theorem dX12_empty_15 : decode cX12_empty 15 = .ok (.iadd, 1) := by decide +kernel
theorem dX12_empty_16 : decode cX12_empty 16 = .ok (.iconst 0, 1) := by decide +kernel
theorem dX12_empty_17 : decode cX12_empty 17 = .ok (.iastore, 1) := by decide +kernel
theorem dX12_empty_18 : decode cX12_empty 18 = .ok (.iinc 2 1, 3) := by decide +kernel
theorem dX12_empty_21 : decode cX12_empty 21 = .ok (.goto (-19), 3) := by decide +kernel
theorem dX12_empty_24 : decode cX12_empty 24 = .ok (.aload_n 0, 1) := by decide +kernel
theorem dX12_empty_25 : decode cX12_empty 25 = .ok (.getfield 35, 3) := by decide +kernel
theorem dX12_empty_28 : decode cX12_empty 28 = .ok (.iload_n 1, 1) := by decide +kernel
theorem dX12_empty_29 : decode cX12_empty 29 = .ok (.iconst 5, 1) := by decide +kernel
theorem dX12_empty_30 : decode cX12_empty 30 = .ok (.iadd, 1) := by decide +kernel
theorem dX12_empty_31 : decode cX12_empty 31 = .ok (.iconst 1, 1) := by decide +kernel
theorem dX12_empty_32 : decode cX12_empty 32 = .ok (.iastore, 1) := by decide +kernel
theorem dX12_empty_33 : decode cX12_empty 33 = .ok (.aload_n 0, 1) := by decide +kernel
theorem dX12_empty_34 : decode cX12_empty 34 = .ok (.getfield 35, 3) := by decide +kernel
theorem dX12_empty_37 : decode cX12_empty 37 = .ok (.iload_n 1, 1) := by decide +kernel
theorem dX12_empty_38 : decode cX12_empty 38 = .ok (.bipush 6, 2) := by decide +kernel
theorem dX12_empty_40 : decode cX12_empty 40 = .ok (.iadd, 1) := by decide +kernel
theorem dX12_empty_41 : decode cX12_empty 41 = .ok (.iconst 4, 1) := by decide +kernel
theorem dX12_empty_42 : decode cX12_empty 42 = .ok (.iastore, 1) := by decide +kernel
theorem dX12_empty_43 : decode cX12_empty 43 = .ok (.aload_n 0, 1) := by decide +kernel
theorem dX12_empty_44 : decode cX12_empty 44 = .ok (.getfield 35, 3) := by decide +kernel
theorem dX12_empty_47 : decode cX12_empty 47 = .ok (.iload_n 1, 1) := by decide +kernel
theorem dX12_empty_48 : decode cX12_empty 48 = .ok (.bipush 7, 2) := by decide +kernel
theorem dX12_empty_50 : decode cX12_empty 50 = .ok (.iadd, 1) := by decide +kernel
theorem dX12_empty_51 : decode cX12_empty 51 = .ok (.iconst 1, 1) := by decide +kernel
theorem dX12_empty_52 : decode cX12_empty 52 = .ok (.iastore, 1) := by decide +kernel
theorem dX12_empty_53 : decode cX12_empty 53 = .ok (.aload_n 0, 1) := by decide +kernel
theorem dX12_empty_54 : decode cX12_empty 54 = .ok (.getfield 35, 3) := by decide +kernel
theorem dX12_empty_57 : decode cX12_empty 57 = .ok (.iload_n 1, 1) := by decide +kernel
theorem dX12_empty_58 : decode cX12_empty 58 = .ok (.bipush 8, 2) := by decide +kernel
theorem dX12_empty_60 : decode cX12_empty 60 = .ok (.iadd, 1) := by decide +kernel
theorem dX12_empty_61 : decode cX12_empty 61 = .ok (.bipush 9, 2) := by decide +kernel
theorem dX12_empty_63 : decode cX12_empty 63 = .ok (.iastore, 1) := by decide +kernel
theorem dX12_empty_64 : decode cX12_empty 64 = .ok (.aload_n 0, 1) := by decide +kernel
theorem dX12_empty_65 : decode cX12_empty 65 = .ok (.getfield 35, 3) := by decide +kernel
theorem dX12_empty_68 : decode cX12_empty 68 = .ok (.iload_n 1, 1) := by decide +kernel
theorem dX12_empty_69 : decode cX12_empty 69 = .ok (.bipush 9, 2) := by decide +kernel
theorem dX12_empty_71 : decode cX12_empty 71 = .ok (.iadd, 1) := by decide +kernel
theorem dX12_empty_72 : decode cX12_empty 72 = .ok (.bipush 8, 2) := by decide +kernel
theorem dX12_empty_74 : decode cX12_empty 74 = .ok (.iastore, 1) := by decide +kernel
theorem dX12_empty_75 : decode cX12_empty 75 = .ok (.aload_n 0, 1) := by decide +kernel
theorem dX12_empty_76 : decode cX12_empty 76 = .ok (.getfield 35, 3) := by decide +kernel
theorem dX12_empty_79 : decode cX12_empty 79 = .ok (.iload_n 1, 1) := by decide +kernel
theorem dX12_empty_80 : decode cX12_empty 80 = .ok (.bipush 10, 2) := by decide +kernel
theorem dX12_empty_82 : decode cX12_empty 82 = .ok (.iadd, 1) := by decide +kernel
theorem dX12_empty_83 : decode cX12_empty 83 = .ok (.iconst (-1), 1) := by decide +kernel
theorem dX12_empty_84 : decode cX12_empty 84 = .ok (.iastore, 1) := by decide +kernel
theorem dX12_empty_85 : decode cX12_empty 85 = .ok (.return_, 1) := by decide +kernel
theorem dX12_fault_0 : decode cX12_fault 0 = .ok (.aload_n 0, 1) := by decide +kernel
theorem dX12_fault_1 : decode cX12_fault 1 = .ok (.iconst 0, 1) := by decide +kernel
theorem dX12_fault_2 : decode cX12_fault 2 = .ok (.putfield 82, 3) := by decide +kernel
theorem dX12_fault_5 : decode cX12_fault 5 = .ok (.iload_n 1, 1) := by decide +kernel
theorem dX12_fault_6 : decode cX12_fault 6 = .ok (.ifCond .ne 10, 3) := by decide +kernel
theorem dX12_fault_9 : decode cX12_fault 9 = .ok (.aload_n 0, 1) := by decide +kernel
theorem dX12_fault_10 : decode cX12_fault 10 = .ok (.getfield 28, 3) := by decide +kernel
theorem dX12_fault_13 : decode cX12_fault 13 = .ok (.goto 16, 3) := by decide +kernel
theorem dX12_fault_16 : decode cX12_fault 16 = .ok (.iload_n 1, 1) := by decide +kernel
theorem dX12_fault_17 : decode cX12_fault 17 = .ok (.iconst 1, 1) := by decide +kernel
theorem dX12_fault_18 : decode cX12_fault 18 = .ok (.if_icmp .ne 10, 3) := by decide +kernel
theorem dX12_fault_21 : decode cX12_fault 21 = .ok (.aload_n 0, 1) := by decide +kernel
theorem dX12_fault_22 : decode cX12_fault 22 = .ok (.getfield 32, 3) := by decide +kernel
theorem dX12_fault_25 : decode cX12_fault 25 = .ok (.goto 4, 3) := by decide +kernel
theorem dX12_fault_28 : decode cX12_fault 28 = .ok (.iconst (-1), 1) := by decide +kernel
theorem dX12_fault_29 : decode cX12_fault 29 = .ok (.ireturn, 1) := by decide +kernel
theorem dX12_feature_0 : decode cX12_feature 0 = .ok (.aload_n 0, 1) := by decide +kernel
theorem dX12_feature_1 : decode cX12_feature 1 = .ok (.iconst 0, 1) := by decide +kernel
theorem dX12_feature_2 : decode cX12_feature 2 = .ok (.putfield 82, 3) := by decide +kernel
theorem dX12_feature_5 : decode cX12_feature 5 = .ok (.aload_n 0, 1) := by decide +kernel
theorem dX12_feature_6 : decode cX12_feature 6 = .ok (.iconst 0, 1) := by decide +kernel
theorem dX12_feature_7 : decode cX12_feature 7 = .ok (.putfield 85, 3) := by decide +kernel
theorem dX12_feature_10 : decode cX12_feature 10 = .ok (.aload_n 0, 1) := by decide +kernel
theorem dX12_feature_11 : decode cX12_feature 11 = .ok (.iload_n 1, 1) := by decide +kernel
theorem dX12_feature_12 : decode cX12_feature 12 = .ok (.invokevirtual 264, 3) := by decide +kernel
theorem dX12_feature_15 : decode cX12_feature 15 = .ok (.ifCond .ne 9, 3) := by decide +kernel
theorem dX12_feature_18 : decode cX12_feature 18 = .ok (.aload_n 0, 1) := by decide +kernel
theorem dX12_feature_19 : decode cX12_feature 19 = .ok (.iconst 2, 1) := by decide +kernel
theorem dX12_feature_20 : decode cX12_feature 20 = .ok (.invokevirtual 269, 3) := by decide +kernel
theorem dX12_feature_23 : decode cX12_feature 23 = .ok (.ireturn, 1) := by decide +kernel
theorem dX12_feed_0 : decode cX12_feed 0 = .ok (.aload_n 0, 1) := by decide +kernel
theorem dX12_feed_1 : decode cX12_feed 1 = .ok (.iconst 0, 1) := by decide +kernel
theorem dX12_feed_2 : decode cX12_feed 2 = .ok (.putfield 82, 3) := by decide +kernel
theorem dX12_feed_5 : decode cX12_feed 5 = .ok (.aload_n 0, 1) := by decide +kernel
theorem dX12_feed_6 : decode cX12_feed 6 = .ok (.getfield 190, 3) := by decide +kernel
theorem dX12_feed_9 : decode cX12_feed 9 = .ok (.bipush 20, 2) := by decide +kernel
theorem dX12_feed_11 : decode cX12_feed 11 = .ok (.iadd, 1) := by decide +kernel
theorem dX12_feed_12 : decode cX12_feed 12 = .ok (.sipush 900, 3) := by decide +kernel
theorem dX12_feed_15 : decode cX12_feed 15 = .ok (.if_icmp .le 5, 3) := by decide +kernel
theorem dX12_feed_20 : decode cX12_feed 20 = .ok (.aload_n 0, 1) := by decide +kernel
theorem dX12_feed_21 : decode cX12_feed 21 = .ok (.iload_n 1, 1) := by decide +kernel
theorem dX12_feed_22 : decode cX12_feed 22 = .ok (.invokevirtual 193, 3) := by decide +kernel
theorem dX12_feed_25 : decode cX12_feed 25 = .ok (.aload_n 0, 1) := by decide +kernel
theorem dX12_feed_26 : decode cX12_feed 26 = .ok (.iload_n 2, 1) := by decide +kernel
theorem dX12_feed_27 : decode cX12_feed 27 = .ok (.invokevirtual 193, 3) := by decide +kernel
theorem dX12_feed_30 : decode cX12_feed 30 = .ok (.aload_n 0, 1) := by decide +kernel
theorem dX12_feed_31 : decode cX12_feed 31 = .ok (.iload_n 3, 1) := by decide +kernel
theorem dX12_feed_32 : decode cX12_feed 32 = .ok (.invokevirtual 193, 3) := by decide +kernel
theorem dX12_feed_35 : decode cX12_feed 35 = .ok (.aload_n 0, 1) := by decide +kernel
theorem dX12_feed_36 : decode cX12_feed 36 = .ok (.iload 4, 2) := by decide +kernel
theorem dX12_feed_38 : decode cX12_feed 38 = .ok (.invokevirtual 193, 3) := by decide +kernel
theorem dX12_feed_41 : decode cX12_feed 41 = .ok (.aload_n 0, 1) := by decide +kernel
theorem dX12_feed_42 : decode cX12_feed 42 = .ok (.iload 5, 2) := by decide +kernel
theorem dX12_feed_44 : decode cX12_feed 44 = .ok (.invokevirtual 193, 3) := by decide +kernel
theorem dX12_feed_47 : decode cX12_feed 47 = .ok (.aload_n 0, 1) := by decide +kernel
theorem dX12_feed_48 : decode cX12_feed 48 = .ok (.getfield 190, 3) := by decide +kernel
theorem dX12_feed_51 : decode cX12_feed 51 = .ok (.ireturn, 1) := by decide +kernel
theorem dX12_feel_0 : decode cX12_feel 0 = .ok (.aload_n 0, 1) := by decide +kernel
theorem dX12_feel_1 : decode cX12_feel 1 = .ok (.iconst 0, 1) := by decide +kernel
theorem dX12_feel_2 : decode cX12_feel 2 = .ok (.putfield 82, 3) := by decide +kernel
theorem dX12_feel_5 : decode cX12_feel 5 = .ok (.aload_n 0, 1) := by decide +kernel
theorem dX12_feel_6 : decode cX12_feel 6 = .ok (.iconst 0, 1) := by decide +kernel
theorem dX12_feel_7 : decode cX12_feel 7 = .ok (.putfield 85, 3) := by decide +kernel
theorem dX12_feel_10 : decode cX12_feel 10 = .ok (.aload_n 0, 1) := by decide +kernel
theorem dX12_feel_11 : decode cX12_feel 11 = .ok (.iload_n 1, 1) := by decide +kernel
theorem dX12_feel_12 : decode cX12_feel 12 = .ok (.iload_n 2, 1) := by decide +kernel
theorem dX12_feel_13 : decode cX12_feel 13 = .ok (.invokevirtual 272, 3) := by decide +kernel
theorem dX12_feel_16 : decode cX12_feel 16 = .ok (.ifCond .ne 9, 3) := by decide +kernel
theorem dX12_feel_19 : decode cX12_feel 19 = .ok (.aload_n 0, 1) := by decide +kernel
theorem dX12_feel_20 : decode cX12_feel 20 = .ok (.iconst 2, 1) := by decide +kernel
theorem dX12_feel_21 : decode cX12_feel 21 = .ok (.invokevirtual 97, 3) := by decide +kernel
theorem dX12_feel_24 : decode cX12_feel 24 = .ok (.ireturn, 1) := by decide +kernel
theorem dX12_feels_0 : decode cX12_feels 0 = .ok (.aload_n 0, 1) := by decide +kernel
theorem dX12_feels_1 : decode cX12_feels 1 = .ok (.iconst 0, 1) := by decide +kernel
theorem dX12_feels_2 : decode cX12_feels 2 = .ok (.putfield 82, 3) := by decide +kernel
theorem dX12_feels_5 : decode cX12_feels 5 = .ok (.aload_n 0, 1) := by decide +kernel
theorem dX12_feels_6 : decode cX12_feels 6 = .ok (.iconst 0, 1) := by decide +kernel
theorem dX12_feels_7 : decode cX12_feels 7 = .ok (.putfield 85, 3) := by decide +kernel
theorem dX12_feels_10 : decode cX12_feels 10 = .ok (.aload_n 0, 1) := by decide +kernel
theorem dX12_feels_11 : decode cX12_feels 11 = .ok (.iload_n 1, 1) := by decide +kernel
theorem dX12_feels_12 : decode cX12_feels 12 = .ok (.iload_n 2, 1) := by decide +kernel
theorem dX12_feels_13 : decode cX12_feels 13 = .ok (.invokevirtual 272, 3) := by decide +kernel
theorem dX12_feels_16 : decode cX12_feels 16 = .ok (.ifCond .eq 33, 3) := by decide +kernel
theorem dX12_feels_49 : decode cX12_feels 49 = .ok (.aload_n 0, 1) := by decide +kernel
theorem dX12_feels_50 : decode cX12_feels 50 = .ok (.iconst 2, 1) := by decide +kernel
theorem dX12_feels_51 : decode cX12_feels 51 = .ok (.invokevirtual 269, 3) := by decide +kernel
theorem dX12_feels_54 : decode cX12_feels 54 = .ok (.ireturn, 1) := by decide +kernel
theorem dX12_filed_0 : decode cX12_filed 0 = .ok (.aload_n 0, 1) := by decide +kernel
theorem dX12_filed_1 : decode cX12_filed 1 = .ok (.iconst 0, 1) := by decide +kernel
theorem dX12_filed_2 : decode cX12_filed 2 = .ok (.putfield 82, 3) := by decide +kernel
theorem dX12_filed_5 : decode cX12_filed 5 = .ok (.aload_n 0, 1) := by decide +kernel
theorem dX12_filed_6 : decode cX12_filed 6 = .ok (.iconst 0, 1) := by decide +kernel
theorem dX12_filed_7 : decode cX12_filed 7 = .ok (.putfield 85, 3) := by decide +kernel
theorem dX12_filed_10 : decode cX12_filed 10 = .ok (.aload_n 0, 1) := by decide +kernel
theorem dX12_filed_11 : decode cX12_filed 11 = .ok (.iload_n 1, 1) := by decide +kernel
theorem dX12_filed_12 : decode cX12_filed 12 = .ok (.invokevirtual 289, 3) := by decide +kernel
theorem dX12_filed_15 : decode cX12_filed 15 = .ok (.ifCond .ne 9, 3) := by decide +kernel
theorem dX12_filed_18 : decode cX12_filed 18 = .ok (.aload_n 0, 1) := by decide +kernel
theorem dX12_filed_19 : decode cX12_filed 19 = .ok (.iconst 2, 1) := by decide +kernel
theorem dX12_filed_20 : decode cX12_filed 20 = .ok (.invokevirtual 269, 3) := by decide +kernel
theorem dX12_filed_23 : decode cX12_filed 23 = .ok (.ireturn, 1) := by decide +kernel
theorem dX12_found_0 : decode cX12_found 0 = .ok (.aload_n 0, 1) := by decide +kernel
theorem dX12_found_1 : decode cX12_found 1 = .ok (.iconst 0, 1) := by decide +kernel
theorem dX12_found_2 : decode cX12_found 2 = .ok (.putfield 82, 3) := by decide +kernel
theorem dX12_found_5 : decode cX12_found 5 = .ok (.aload_n 0, 1) := by decide +kernel
theorem dX12_found_6 : decode cX12_found 6 = .ok (.iconst 0, 1) := by decide +kernel
theorem dX12_found_7 : decode cX12_found 7 = .ok (.putfield 85, 3) := by decide +kernel
theorem dX12_found_10 : decode cX12_found 10 = .ok (.iload_n 1, 1) := by decide +kernel
theorem dX12_found_11 : decode cX12_found 11 = .ok (.i2l, 1) := by decide +kernel
theorem dX12_found_12 : decode cX12_found 12 = .ok (.lconst 0, 1) := by decide +kernel
theorem dX12_found_13 : decode cX12_found 13 = .ok (.aload_n 0, 1) := by decide +kernel
theorem dX12_found_14 : decode cX12_found 14 = .ok (.getfield 432, 3) := by decide +kernel
theorem dX12_found_17 : decode cX12_found 17 = .ok (.iconst 1, 1) := by decide +kernel
theorem dX12_found_18 : decode cX12_found 18 = .ok (.isub, 1) := by decide +kernel
theorem dX12_found_19 : decode cX12_found 19 = .ok (.i2l, 1) := by decide +kernel
theorem dX12_found_20 : decode cX12_found 20 = .ok (.invokestatic 117, 3) := by decide +kernel
theorem dX12_found_23 : decode cX12_found 23 = .ok (.ifCond .eq 12, 3) := by decide +kernel
theorem dX12_found_35 : decode cX12_found 35 = .ok (.aload_n 0, 1) := by decide +kernel
theorem dX12_found_36 : decode cX12_found 36 = .ok (.bipush 8, 2) := by decide +kernel
theorem dX12_found_38 : decode cX12_found 38 = .ok (.invokevirtual 269, 3) := by decide +kernel
theorem dX12_found_41 : decode cX12_found 41 = .ok (.ireturn, 1) := by decide +kernel
theorem dX12_from_0 : decode cX12_from 0 = .ok (.aload_n 0, 1) := by decide +kernel
theorem dX12_from_1 : decode cX12_from 1 = .ok (.iconst 0, 1) := by decide +kernel
theorem dX12_from_2 : decode cX12_from 2 = .ok (.putfield 82, 3) := by decide +kernel
theorem dX12_from_5 : decode cX12_from 5 = .ok (.aload_n 0, 1) := by decide +kernel
theorem dX12_from_6 : decode cX12_from 6 = .ok (.iconst 0, 1) := by decide +kernel
theorem dX12_from_7 : decode cX12_from 7 = .ok (.putfield 85, 3) := by decide +kernel
theorem dX12_from_10 : decode cX12_from 10 = .ok (.aload_n 0, 1) := by decide +kernel
theorem dX12_from_11 : decode cX12_from 11 = .ok (.iload_n 1, 1) := by decide +kernel
theorem dX12_from_12 : decode cX12_from 12 = .ok (.invokevirtual 289, 3) := by decide +kernel
theorem dX12_from_15 : decode cX12_from 15 = .ok (.ifCond .ne 9, 3) := by decide +kernel
theorem dX12_from_18 : decode cX12_from 18 = .ok (.aload_n 0, 1) := by decide +kernel
theorem dX12_from_19 : decode cX12_from 19 = .ok (.iconst 2, 1) := by decide +kernel
theorem dX12_from_20 : decode cX12_from 20 = .ok (.invokevirtual 97, 3) := by decide +kernel
theorem dX12_from_23 : decode cX12_from 23 = .ok (.ireturn, 1) := by decide +kernel
theorem dX12_goOn_0 : decode cX12_goOn 0 = .ok (.aload_n 0, 1) := by decide +kernel
theorem dX12_goOn_1 : decode cX12_goOn 1 = .ok (.iconst 0, 1) := by decide +kernel
theorem dX12_goOn_2 : decode cX12_goOn 2 = .ok (.putfield 82, 3) := by decide +kernel
theorem dX12_goOn_5 : decode cX12_goOn 5 = .ok (.aload_n 0, 1) := by decide +kernel
theorem dX12_goOn_6 : decode cX12_goOn 6 = .ok (.iconst 0, 1) := by decide +kernel
theorem dX12_goOn_7 : decode cX12_goOn 7 = .ok (.putfield 85, 3) := by decide +kernel
theorem dX12_goOn_10 : decode cX12_goOn 10 = .ok (.aload_n 0, 1) := by decide +kernel
theorem dX12_goOn_11 : decode cX12_goOn 11 = .ok (.invokevirtual 323, 3) := by decide +kernel
theorem dX12_goOn_14 : decode cX12_goOn 14 = .ok (.ifCond .ne 10, 3) := by decide +kernel
theorem dX12_goOn_17 : decode cX12_goOn 17 = .ok (.aload_n 0, 1) := by decide +kernel
theorem dX12_goOn_18 : decode cX12_goOn 18 = .ok (.bipush 8, 2) := by decide +kernel
theorem dX12_goOn_20 : decode cX12_goOn 20 = .ok (.invokevirtual 97, 3) := by decide +kernel
theorem dX12_goOn_23 : decode cX12_goOn 23 = .ok (.ireturn, 1) := by decide +kernel
theorem dX12_here_0 : decode cX12_here 0 = .ok (.aload_n 0, 1) := by decide +kernel
theorem dX12_here_1 : decode cX12_here 1 = .ok (.iconst 0, 1) := by decide +kernel
theorem dX12_here_2 : decode cX12_here 2 = .ok (.putfield 82, 3) := by decide +kernel
theorem dX12_here_5 : decode cX12_here 5 = .ok (.aload_n 0, 1) := by decide +kernel
theorem dX12_here_6 : decode cX12_here 6 = .ok (.iconst 0, 1) := by decide +kernel
theorem dX12_here_7 : decode cX12_here 7 = .ok (.putfield 85, 3) := by decide +kernel
theorem dX12_here_10 : decode cX12_here 10 = .ok (.aload_n 0, 1) := by decide +kernel
theorem dX12_here_11 : decode cX12_here 11 = .ok (.iload_n 1, 1) := by decide +kernel
theorem dX12_here_12 : decode cX12_here 12 = .ok (.i2l, 1) := by decide +kernel
theorem dX12_here_13 : decode cX12_here 13 = .ok (.invokevirtual 275, 3) := by decide +kernel
theorem dX12_here_16 : decode cX12_here 16 = .ok (.ifCond .ne 9, 3) := by decide +kernel
theorem dX12_here_19 : decode cX12_here 19 = .ok (.aload_n 0, 1) := by decide +kernel
theorem dX12_here_20 : decode cX12_here 20 = .ok (.iconst 2, 1) := by decide +kernel
theorem dX12_here_21 : decode cX12_here 21 = .ok (.invokevirtual 97, 3) := by decide +kernel
theorem dX12_here_24 : decode cX12_here 24 = .ok (.ireturn, 1) := by decide +kernel
theorem dX12_house_0 : decode cX12_house 0 = .ok (.aload_n 0, 1) := by decide +kernel
theorem dX12_house_1 : decode cX12_house 1 = .ok (.iconst 0, 1) := by decide +kernel
theorem dX12_house_2 : decode cX12_house 2 = .ok (.putfield 82, 3) := by decide +kernel
theorem dX12_house_5 : decode cX12_house 5 = .ok (.aload_n 0, 1) := by decide +kernel
theorem dX12_house_6 : decode cX12_house 6 = .ok (.iconst 0, 1) := by decide +kernel
theorem dX12_house_7 : decode cX12_house 7 = .ok (.putfield 85, 3) := by decide +kernel
theorem dX12_house_10 : decode cX12_house 10 = .ok (.aload_n 0, 1) := by decide +kernel
theorem dX12_house_11 : decode cX12_house 11 = .ok (.iload_n 1, 1) := by decide +kernel
theorem dX12_house_12 : decode cX12_house 12 = .ok (.sipush 900, 3) := by decide +kernel
theorem dX12_house_15 : decode cX12_house 15 = .ok (.invokevirtual 233, 3) := by decide +kernel
theorem dX12_house_18 : decode cX12_house 18 = .ok (.ifCond .ne 5, 3) := by decide +kernel
theorem dX12_house_21 : decode cX12_house 21 = .ok (.iconst (-1), 1) := by decide +kernel
theorem dX12_house_22 : decode cX12_house 22 = .ok (.ireturn, 1) := by decide +kernel
theorem dX12_house_23 : decode cX12_house 23 = .ok (.aload_n 0, 1) := by decide +kernel
theorem dX12_house_24 : decode cX12_house 24 = .ok (.sipush 1460, 3) := by decide +kernel
theorem dX12_house_27 : decode cX12_house 27 = .ok (.invokevirtual 78, 3) := by decide +kernel
theorem dX12_house_30 : decode cX12_house 30 = .ok (.aload_n 0, 1) := by decide +kernel
theorem dX12_house_31 : decode cX12_house 31 = .ok (.iconst 0, 1) := by decide +kernel
theorem dX12_house_32 : decode cX12_house 32 = .ok (.putfield 223, 3) := by decide +kernel
theorem dX12_house_35 : decode cX12_house 35 = .ok (.aload_n 0, 1) := by decide +kernel
theorem dX12_house_36 : decode cX12_house 36 = .ok (.iconst 0, 1) := by decide +kernel
theorem dX12_house_37 : decode cX12_house 37 = .ok (.putfield 227, 3) := by decide +kernel
theorem dX12_house_40 : decode cX12_house 40 = .ok (.aload_n 0, 1) := by decide +kernel
theorem dX12_house_41 : decode cX12_house 41 = .ok (.iconst 0, 1) := by decide +kernel
theorem dX12_house_42 : decode cX12_house 42 = .ok (.putfield 230, 3) := by decide +kernel
theorem dX12_house_45 : decode cX12_house 45 = .ok (.aload_n 0, 1) := by decide +kernel
theorem dX12_house_46 : decode cX12_house 46 = .ok (.getfield 174, 3) := by decide +kernel
theorem dX12_house_49 : decode cX12_house 49 = .ok (.ifCond .ne 129, 3) := by decide +kernel
theorem dX12_house_52 : decode cX12_house 52 = .ok (.aload_n 0, 1) := by decide +kernel
theorem dX12_house_53 : decode cX12_house 53 = .ok (.getfield 133, 3) := by decide +kernel
theorem dX12_house_56 : decode cX12_house 56 = .ok (.ifCond .eq 122, 3) := by decide +kernel
theorem dX12_house_178 : decode cX12_house 178 = .ok (.aload_n 0, 1) := by decide +kernel
theorem dX12_house_179 : decode cX12_house 179 = .ok (.invokevirtual 261, 3) := by decide +kernel
theorem dX12_house_182 : decode cX12_house 182 = .ok (.ifCond .ne 5, 3) := by decide +kernel
theorem dX12_house_187 : decode cX12_house 187 = .ok (.iconst 0, 1) := by decide +kernel
theorem dX12_house_188 : decode cX12_house 188 = .ok (.istore_n 2, 1) := by decide +kernel
theorem dX12_house_189 : decode cX12_house 189 = .ok (.iload_n 2, 1) := by decide +kernel
theorem dX12_house_190 : decode cX12_house 190 = .ok (.sipush 180, 3) := by decide +kernel
theorem dX12_house_193 : decode cX12_house 193 = .ok (.if_icmp .ge 25, 3) := by decide +kernel
theorem dX12_house_196 : decode cX12_house 196 = .ok (.aload_n 0, 1) := by decide +kernel
theorem dX12_house_197 : decode cX12_house 197 = .ok (.getfield 35, 3) := by decide +kernel
theorem dX12_house_200 : decode cX12_house 200 = .ok (.iload_n 2, 1) := by decide +kernel
theorem dX12_house_201 : decode cX12_house 201 = .ok (.aload_n 0, 1) := by decide +kernel
theorem dX12_house_202 : decode cX12_house 202 = .ok (.getfield 35, 3) := by decide +kernel
theorem dX12_house_205 : decode cX12_house 205 = .ok (.sipush 1460, 3) := by decide +kernel
theorem dX12_house_208 : decode cX12_house 208 = .ok (.iload_n 2, 1) := by decide +kernel
theorem dX12_house_209 : decode cX12_house 209 = .ok (.iadd, 1) := by decide +kernel
theorem dX12_house_210 : decode cX12_house 210 = .ok (.iaload, 1) := by decide +kernel
theorem dX12_house_211 : decode cX12_house 211 = .ok (.iastore, 1) := by decide +kernel
theorem dX12_house_212 : decode cX12_house 212 = .ok (.iinc 2 1, 3) := by decide +kernel
theorem dX12_house_215 : decode cX12_house 215 = .ok (.goto (-26), 3) := by decide +kernel
theorem dX12_house_218 : decode cX12_house 218 = .ok (.iconst 0, 1) := by decide +kernel
theorem dX12_house_219 : decode cX12_house 219 = .ok (.istore_n 2, 1) := by decide +kernel
theorem dX12_house_220 : decode cX12_house 220 = .ok (.iload_n 2, 1) := by decide +kernel
theorem dX12_house_221 : decode cX12_house 221 = .ok (.bipush 21, 2) := by decide +kernel
theorem dX12_house_223 : decode cX12_house 223 = .ok (.if_icmp .ge 24, 3) := by decide +kernel
theorem dX12_house_226 : decode cX12_house 226 = .ok (.aload_n 0, 1) := by decide +kernel
theorem dX12_house_227 : decode cX12_house 227 = .ok (.getfield 38, 3) := by decide +kernel
theorem dX12_house_230 : decode cX12_house 230 = .ok (.iload_n 2, 1) := by decide +kernel
theorem dX12_house_231 : decode cX12_house 231 = .ok (.aload_n 0, 1) := by decide +kernel
theorem dX12_house_232 : decode cX12_house 232 = .ok (.getfield 38, 3) := by decide +kernel
theorem dX12_house_235 : decode cX12_house 235 = .ok (.bipush 84, 2) := by decide +kernel
theorem dX12_house_237 : decode cX12_house 237 = .ok (.iload_n 2, 1) := by decide +kernel
theorem dX12_house_238 : decode cX12_house 238 = .ok (.iadd, 1) := by decide +kernel
theorem dX12_house_239 : decode cX12_house 239 = .ok (.laload, 1) := by decide +kernel
theorem dX12_house_240 : decode cX12_house 240 = .ok (.lastore, 1) := by decide +kernel
theorem dX12_house_241 : decode cX12_house 241 = .ok (.iinc 2 1, 3) := by decide +kernel
theorem dX12_house_244 : decode cX12_house 244 = .ok (.goto (-24), 3) := by decide +kernel
theorem dX12_house_247 : decode cX12_house 247 = .ok (.aload_n 0, 1) := by decide +kernel
theorem dX12_house_248 : decode cX12_house 248 = .ok (.getfield 35, 3) := by decide +kernel
theorem dX12_house_251 : decode cX12_house 251 = .ok (.iconst 1, 1) := by decide +kernel
theorem dX12_house_252 : decode cX12_house 252 = .ok (.iaload, 1) := by decide +kernel
theorem dX12_house_253 : decode cX12_house 253 = .ok (.ireturn, 1) := by decide +kernel
theorem dX12_inRow_0 : decode cX12_inRow 0 = .ok (.aload_n 0, 1) := by decide +kernel
theorem dX12_inRow_1 : decode cX12_inRow 1 = .ok (.iconst 0, 1) := by decide +kernel
theorem dX12_inRow_2 : decode cX12_inRow 2 = .ok (.putfield 82, 3) := by decide +kernel
theorem dX12_inRow_5 : decode cX12_inRow 5 = .ok (.aload_n 0, 1) := by decide +kernel
theorem dX12_inRow_6 : decode cX12_inRow 6 = .ok (.iconst 0, 1) := by decide +kernel
theorem dX12_inRow_7 : decode cX12_inRow 7 = .ok (.putfield 85, 3) := by decide +kernel
theorem dX12_inRow_10 : decode cX12_inRow 10 = .ok (.aload_n 0, 1) := by decide +kernel
theorem dX12_inRow_11 : decode cX12_inRow 11 = .ok (.iload_n 1, 1) := by decide +kernel
theorem dX12_inRow_12 : decode cX12_inRow 12 = .ok (.invokevirtual 295, 3) := by decide +kernel
theorem dX12_inRow_15 : decode cX12_inRow 15 = .ok (.ifCond .ne 9, 3) := by decide +kernel
theorem dX12_inRow_18 : decode cX12_inRow 18 = .ok (.aload_n 0, 1) := by decide +kernel
theorem dX12_inRow_19 : decode cX12_inRow 19 = .ok (.iconst 2, 1) := by decide +kernel
theorem dX12_inRow_20 : decode cX12_inRow 20 = .ok (.invokevirtual 269, 3) := by decide +kernel
theorem dX12_inRow_23 : decode cX12_inRow 23 = .ok (.ireturn, 1) := by decide +kernel
theorem dX12_init_0 : decode cX12_init 0 = .ok (.aload_n 0, 1) := by decide +kernel
theorem dX12_init_1 : decode cX12_init 1 = .ok (.invokespecial 1, 3) := by decide +kernel
theorem dX12_init_4 : decode cX12_init 4 = .ok (.aload_n 0, 1) := by decide +kernel
theorem dX12_init_5 : decode cX12_init 5 = .ok (.lconst 1, 1) := by decide +kernel
theorem dX12_init_6 : decode cX12_init 6 = .ok (.putfield 7, 3) := by decide +kernel
theorem dX12_init_9 : decode cX12_init 9 = .ok (.aload_n 0, 1) := by decide +kernel
theorem dX12_init_10 : decode cX12_init 10 = .ok (.iconst 4, 1) := by decide +kernel
theorem dX12_init_11 : decode cX12_init 11 = .ok (.newarray .int, 2) := by decide +kernel
theorem dX12_init_13 : decode cX12_init 13 = .ok (.putfield 13, 3) := by decide +kernel
theorem dX12_init_16 : decode cX12_init 16 = .ok (.aload_n 0, 1) := by decide +kernel
theorem dX12_init_17 : decode cX12_init 17 = .ok (.iconst 4, 1) := by decide +kernel
theorem dX12_init_18 : decode cX12_init 18 = .ok (.newarray .int, 2) := by decide +kernel
theorem dX12_init_20 : decode cX12_init 20 = .ok (.putfield 17, 3) := by decide +kernel
theorem dX12_init_23 : decode cX12_init 23 = .ok (.aload_n 0, 1) := by decide +kernel
theorem dX12_init_24 : decode cX12_init 24 = .ok (.sipush 240, 3) := by decide +kernel
theorem dX12_init_27 : decode cX12_init 27 = .ok (.newarray .long, 2) := by decide +kernel
theorem dX12_init_29 : decode cX12_init 29 = .ok (.putfield 20, 3) := by decide +kernel
theorem dX12_init_32 : decode cX12_init 32 = .ok (.aload_n 0, 1) := by decide +kernel
theorem dX12_init_33 : decode cX12_init 33 = .ok (.sipush 900, 3) := by decide +kernel
theorem dX12_init_36 : decode cX12_init 36 = .ok (.newarray .byte, 2) := by decide +kernel
theorem dX12_init_38 : decode cX12_init 38 = .ok (.putfield 24, 3) := by decide +kernel
theorem dX12_init_41 : decode cX12_init 41 = .ok (.aload_n 0, 1) := by decide +kernel
theorem dX12_init_42 : decode cX12_init 42 = .ok (.iconst (-1), 1) := by decide +kernel
theorem dX12_init_43 : decode cX12_init 43 = .ok (.putfield 28, 3) := by decide +kernel
theorem dX12_init_46 : decode cX12_init 46 = .ok (.aload_n 0, 1) := by decide +kernel
theorem dX12_init_47 : decode cX12_init 47 = .ok (.iconst (-1), 1) := by decide +kernel
theorem dX12_init_48 : decode cX12_init 48 = .ok (.putfield 32, 3) := by decide +kernel
theorem dX12_init_51 : decode cX12_init 51 = .ok (.aload_n 0, 1) := by decide +kernel
theorem dX12_init_52 : decode cX12_init 52 = .ok (.sipush 1825, 3) := by decide +kernel
theorem dX12_init_55 : decode cX12_init 55 = .ok (.newarray .int, 2) := by decide +kernel
theorem dX12_init_57 : decode cX12_init 57 = .ok (.putfield 35, 3) := by decide +kernel
theorem dX12_init_60 : decode cX12_init 60 = .ok (.aload_n 0, 1) := by decide +kernel
theorem dX12_init_61 : decode cX12_init 61 = .ok (.bipush 105, 2) := by decide +kernel
theorem dX12_init_63 : decode cX12_init 63 = .ok (.newarray .long, 2) := by decide +kernel
theorem dX12_init_65 : decode cX12_init 65 = .ok (.putfield 38, 3) := by decide +kernel
theorem dX12_init_68 : decode cX12_init 68 = .ok (.aload_n 0, 1) := by decide +kernel
theorem dX12_init_69 : decode cX12_init 69 = .ok (.bipush 10, 2) := by decide +kernel
theorem dX12_init_71 : decode cX12_init 71 = .ok (.newarray .int, 2) := by decide +kernel
theorem dX12_init_73 : decode cX12_init 73 = .ok (.putfield 41, 3) := by decide +kernel
theorem dX12_init_76 : decode cX12_init 76 = .ok (.aload_n 0, 1) := by decide +kernel
theorem dX12_init_77 : decode cX12_init 77 = .ok (.bipush 10, 2) := by decide +kernel
theorem dX12_init_79 : decode cX12_init 79 = .ok (.newarray .int, 2) := by decide +kernel
theorem dX12_init_81 : decode cX12_init 81 = .ok (.putfield 44, 3) := by decide +kernel
theorem dX12_init_84 : decode cX12_init 84 = .ok (.aload_n 0, 1) := by decide +kernel
theorem dX12_init_85 : decode cX12_init 85 = .ok (.bipush 10, 2) := by decide +kernel
theorem dX12_init_87 : decode cX12_init 87 = .ok (.newarray .int, 2) := by decide +kernel
theorem dX12_init_89 : decode cX12_init 89 = .ok (.putfield 47, 3) := by decide +kernel
theorem dX12_init_92 : decode cX12_init 92 = .ok (.aload_n 0, 1) := by decide +kernel
theorem dX12_init_93 : decode cX12_init 93 = .ok (.bipush 10, 2) := by decide +kernel
theorem dX12_init_95 : decode cX12_init 95 = .ok (.newarray .int, 2) := by decide +kernel
theorem dX12_init_97 : decode cX12_init 97 = .ok (.putfield 50, 3) := by decide +kernel
theorem dX12_init_100 : decode cX12_init 100 = .ok (.aload_n 0, 1) := by decide +kernel
theorem dX12_init_101 : decode cX12_init 101 = .ok (.bipush 100, 2) := by decide +kernel
theorem dX12_init_103 : decode cX12_init 103 = .ok (.newarray .long, 2) := by decide +kernel
theorem dX12_init_105 : decode cX12_init 105 = .ok (.putfield 53, 3) := by decide +kernel
theorem dX12_init_108 : decode cX12_init 108 = .ok (.aload_n 0, 1) := by decide +kernel
theorem dX12_init_109 : decode cX12_init 109 = .ok (.bipush 20, 2) := by decide +kernel
theorem dX12_init_111 : decode cX12_init 111 = .ok (.newarray .long, 2) := by decide +kernel
theorem dX12_init_113 : decode cX12_init 113 = .ok (.putfield 56, 3) := by decide +kernel
theorem dX12_init_116 : decode cX12_init 116 = .ok (.aload_n 0, 1) := by decide +kernel
theorem dX12_init_117 : decode cX12_init 117 = .ok (.iconst 3, 1) := by decide +kernel
theorem dX12_init_118 : decode cX12_init 118 = .ok (.newarray .int, 2) := by decide +kernel
theorem dX12_init_120 : decode cX12_init 120 = .ok (.putfield 59, 3) := by decide +kernel
theorem dX12_init_123 : decode cX12_init 123 = .ok (.aload_n 0, 1) := by decide +kernel
theorem dX12_init_124 : decode cX12_init 124 = .ok (.bipush 7, 2) := by decide +kernel
theorem dX12_init_126 : decode cX12_init 126 = .ok (.newarray .int, 2) := by decide +kernel
theorem dX12_init_128 : decode cX12_init 128 = .ok (.putfield 62, 3) := by decide +kernel
theorem dX12_init_131 : decode cX12_init 131 = .ok (.aload_n 0, 1) := by decide +kernel
theorem dX12_init_132 : decode cX12_init 132 = .ok (.bipush 20, 2) := by decide +kernel
theorem dX12_init_134 : decode cX12_init 134 = .ok (.newarray .int, 2) := by decide +kernel
theorem dX12_init_136 : decode cX12_init 136 = .ok (.putfield 65, 3) := by decide +kernel
theorem dX12_init_139 : decode cX12_init 139 = .ok (.aload_n 0, 1) := by decide +kernel
theorem dX12_init_140 : decode cX12_init 140 = .ok (.iconst 3, 1) := by decide +kernel
theorem dX12_init_141 : decode cX12_init 141 = .ok (.newarray .boolean, 2) := by decide +kernel
theorem dX12_init_143 : decode cX12_init 143 = .ok (.putfield 68, 3) := by decide +kernel
theorem dX12_init_146 : decode cX12_init 146 = .ok (.aload_n 0, 1) := by decide +kernel
theorem dX12_init_147 : decode cX12_init 147 = .ok (.bipush 10, 2) := by decide +kernel
theorem dX12_init_149 : decode cX12_init 149 = .ok (.newarray .boolean, 2) := by decide +kernel
theorem dX12_init_151 : decode cX12_init 151 = .ok (.putfield 72, 3) := by decide +kernel
theorem dX12_init_154 : decode cX12_init 154 = .ok (.aload_n 0, 1) := by decide +kernel
theorem dX12_init_155 : decode cX12_init 155 = .ok (.bipush 10, 2) := by decide +kernel
theorem dX12_init_157 : decode cX12_init 157 = .ok (.newarray .int, 2) := by decide +kernel
theorem dX12_init_159 : decode cX12_init 159 = .ok (.putfield 75, 3) := by decide +kernel
theorem dX12_init_162 : decode cX12_init 162 = .ok (.iconst 0, 1) := by decide +kernel
theorem dX12_init_163 : decode cX12_init 163 = .ok (.istore_n 1, 1) := by decide +kernel
theorem dX12_init_164 : decode cX12_init 164 = .ok (.iload_n 1, 1) := by decide +kernel
theorem dX12_init_165 : decode cX12_init 165 = .ok (.iconst 4, 1) := by decide +kernel
theorem dX12_init_166 : decode cX12_init 166 = .ok (.if_icmp .ge 16, 3) := by decide +kernel
theorem dX12_init_169 : decode cX12_init 169 = .ok (.aload_n 0, 1) := by decide +kernel
theorem dX12_init_170 : decode cX12_init 170 = .ok (.getfield 17, 3) := by decide +kernel
theorem dX12_init_173 : decode cX12_init 173 = .ok (.iload_n 1, 1) := by decide +kernel
theorem dX12_init_174 : decode cX12_init 174 = .ok (.iconst (-1), 1) := by decide +kernel
theorem dX12_init_175 : decode cX12_init 175 = .ok (.iastore, 1) := by decide +kernel
theorem dX12_init_176 : decode cX12_init 176 = .ok (.iinc 1 1, 3) := by decide +kernel
theorem dX12_init_179 : decode cX12_init 179 = .ok (.goto (-15), 3) := by decide +kernel
theorem dX12_init_182 : decode cX12_init 182 = .ok (.aload_n 0, 1) := by decide +kernel
theorem dX12_init_183 : decode cX12_init 183 = .ok (.iconst 0, 1) := by decide +kernel
theorem dX12_init_184 : decode cX12_init 184 = .ok (.invokevirtual 78, 3) := by decide +kernel
theorem dX12_init_187 : decode cX12_init 187 = .ok (.return_, 1) := by decide +kernel
theorem dX12_isDoor_0 : decode cX12_isDoor 0 = .ok (.iload_n 1, 1) := by decide +kernel
theorem dX12_isDoor_1 : decode cX12_isDoor 1 = .ok (.i2l, 1) := by decide +kernel
theorem dX12_isDoor_2 : decode cX12_isDoor 2 = .ok (.lconst 0, 1) := by decide +kernel
theorem dX12_isDoor_3 : decode cX12_isDoor 3 = .ok (.aload_n 0, 1) := by decide +kernel
theorem dX12_isDoor_4 : decode cX12_isDoor 4 = .ok (.getfield 35, 3) := by decide +kernel
theorem dX12_isDoor_7 : decode cX12_isDoor 7 = .ok (.iconst 3, 1) := by decide +kernel
theorem dX12_isDoor_8 : decode cX12_isDoor 8 = .ok (.iaload, 1) := by decide +kernel
theorem dX12_isDoor_9 : decode cX12_isDoor 9 = .ok (.iconst 1, 1) := by decide +kernel
theorem dX12_isDoor_10 : decode cX12_isDoor 10 = .ok (.isub, 1) := by decide +kernel
theorem dX12_isDoor_11 : decode cX12_isDoor 11 = .ok (.i2l, 1) := by decide +kernel
theorem dX12_isDoor_12 : decode cX12_isDoor 12 = .ok (.invokestatic 117, 3) := by decide +kernel
theorem dX12_isDoor_15 : decode cX12_isDoor 15 = .ok (.ireturn, 1) := by decide +kernel
theorem dX12_isFeature_0 : decode cX12_isFeature 0 = .ok (.iload_n 1, 1) := by decide +kernel
theorem dX12_isFeature_1 : decode cX12_isFeature 1 = .ok (.i2l, 1) := by decide +kernel
theorem dX12_isFeature_2 : decode cX12_isFeature 2 = .ok (.lconst 0, 1) := by decide +kernel
theorem dX12_isFeature_3 : decode cX12_isFeature 3 = .ok (.aload_n 0, 1) := by decide +kernel
theorem dX12_isFeature_4 : decode cX12_isFeature 4 = .ok (.getfield 35, 3) := by decide +kernel
theorem dX12_isFeature_7 : decode cX12_isFeature 7 = .ok (.iconst 0, 1) := by decide +kernel
theorem dX12_isFeature_8 : decode cX12_isFeature 8 = .ok (.iaload, 1) := by decide +kernel
theorem dX12_isFeature_9 : decode cX12_isFeature 9 = .ok (.iconst 1, 1) := by decide +kernel
theorem dX12_isFeature_10 : decode cX12_isFeature 10 = .ok (.isub, 1) := by decide +kernel
theorem dX12_isFeature_11 : decode cX12_isFeature 11 = .ok (.i2l, 1) := by decide +kernel
theorem dX12_isFeature_12 : decode cX12_isFeature 12 = .ok (.invokestatic 117, 3) := by decide +kernel
theorem dX12_isFeature_15 : decode cX12_isFeature 15 = .ok (.ireturn, 1) := by decide +kernel
theorem dX12_isHeld_0 : decode cX12_isHeld 0 = .ok (.aload_n 0, 1) := by decide +kernel
theorem dX12_isHeld_1 : decode cX12_isHeld 1 = .ok (.getfield 35, 3) := by decide +kernel
theorem dX12_isHeld_4 : decode cX12_isHeld 4 = .ok (.bipush 10, 2) := by decide +kernel
theorem dX12_isHeld_6 : decode cX12_isHeld 6 = .ok (.iaload, 1) := by decide +kernel
theorem dX12_isHeld_7 : decode cX12_isHeld 7 = .ok (.ifCond .ge 5, 3) := by decide +kernel
theorem dX12_isHeld_10 : decode cX12_isHeld 10 = .ok (.iconst 0, 1) := by decide +kernel
theorem dX12_isHeld_11 : decode cX12_isHeld 11 = .ok (.ireturn, 1) := by decide +kernel
theorem dX12_isIn_0 : decode cX12_isIn 0 = .ok (.lload_n 0, 1) := by decide +kernel
theorem dX12_isIn_1 : decode cX12_isIn 1 = .ok (.lload_n 2, 1) := by decide +kernel
theorem dX12_isIn_2 : decode cX12_isIn 2 = .ok (.lcmp, 1) := by decide +kernel
theorem dX12_isIn_3 : decode cX12_isIn 3 = .ok (.ifCond .lt 14, 3) := by decide +kernel
theorem dX12_isIn_6 : decode cX12_isIn 6 = .ok (.lload_n 0, 1) := by decide +kernel
theorem dX12_isIn_7 : decode cX12_isIn 7 = .ok (.lload 4, 2) := by decide +kernel
theorem dX12_isIn_9 : decode cX12_isIn 9 = .ok (.lcmp, 1) := by decide +kernel
theorem dX12_isIn_10 : decode cX12_isIn 10 = .ok (.ifCond .gt 7, 3) := by decide +kernel
theorem dX12_isIn_13 : decode cX12_isIn 13 = .ok (.iconst 1, 1) := by decide +kernel
theorem dX12_isIn_14 : decode cX12_isIn 14 = .ok (.goto 4, 3) := by decide +kernel
theorem dX12_isIn_17 : decode cX12_isIn 17 = .ok (.iconst 0, 1) := by decide +kernel
theorem dX12_isIn_18 : decode cX12_isIn 18 = .ok (.ireturn, 1) := by decide +kernel
theorem dX12_isKey_0 : decode cX12_isKey 0 = .ok (.lload_n 1, 1) := by decide +kernel
theorem dX12_isKey_1 : decode cX12_isKey 1 = .ok (.lconst 0, 1) := by decide +kernel
theorem dX12_isKey_2 : decode cX12_isKey 2 = .ok (.aload_n 0, 1) := by decide +kernel
theorem dX12_isKey_3 : decode cX12_isKey 3 = .ok (.getfield 35, 3) := by decide +kernel
theorem dX12_isKey_6 : decode cX12_isKey 6 = .ok (.iconst 1, 1) := by decide +kernel
theorem dX12_isKey_7 : decode cX12_isKey 7 = .ok (.iaload, 1) := by decide +kernel
theorem dX12_isKey_8 : decode cX12_isKey 8 = .ok (.iconst 1, 1) := by decide +kernel
theorem dX12_isKey_9 : decode cX12_isKey 9 = .ok (.isub, 1) := by decide +kernel
theorem dX12_isKey_10 : decode cX12_isKey 10 = .ok (.i2l, 1) := by decide +kernel
theorem dX12_isKey_11 : decode cX12_isKey 11 = .ok (.invokestatic 117, 3) := by decide +kernel
theorem dX12_isKey_14 : decode cX12_isKey 14 = .ok (.ireturn, 1) := by decide +kernel
theorem dX12_isRing_0 : decode cX12_isRing 0 = .ok (.iload_n 1, 1) := by decide +kernel
theorem dX12_isRing_1 : decode cX12_isRing 1 = .ok (.i2l, 1) := by decide +kernel
theorem dX12_isRing_2 : decode cX12_isRing 2 = .ok (.lconst 0, 1) := by decide +kernel
theorem dX12_isRing_3 : decode cX12_isRing 3 = .ok (.aload_n 0, 1) := by decide +kernel
theorem dX12_isRing_4 : decode cX12_isRing 4 = .ok (.getfield 35, 3) := by decide +kernel
theorem dX12_isRing_7 : decode cX12_isRing 7 = .ok (.iconst 2, 1) := by decide +kernel
theorem dX12_isRing_8 : decode cX12_isRing 8 = .ok (.iaload, 1) := by decide +kernel
theorem dX12_isRing_9 : decode cX12_isRing 9 = .ok (.iconst 1, 1) := by decide +kernel
theorem dX12_isRing_10 : decode cX12_isRing 10 = .ok (.isub, 1) := by decide +kernel
theorem dX12_isRing_11 : decode cX12_isRing 11 = .ok (.i2l, 1) := by decide +kernel
theorem dX12_isRing_12 : decode cX12_isRing 12 = .ok (.invokestatic 117, 3) := by decide +kernel
theorem dX12_isRing_15 : decode cX12_isRing 15 = .ok (.ireturn, 1) := by decide +kernel
theorem dX12_isStep_0 : decode cX12_isStep 0 = .ok (.aload_n 0, 1) := by decide +kernel
theorem dX12_isStep_1 : decode cX12_isStep 1 = .ok (.iload_n 1, 1) := by decide +kernel
theorem dX12_isStep_2 : decode cX12_isStep 2 = .ok (.invokevirtual 264, 3) := by decide +kernel
theorem dX12_isStep_5 : decode cX12_isStep 5 = .ok (.ifCond .eq 28, 3) := by decide +kernel
theorem dX12_isStep_33 : decode cX12_isStep 33 = .ok (.iconst 0, 1) := by decide +kernel
theorem dX12_isStep_34 : decode cX12_isStep 34 = .ok (.ireturn, 1) := by decide +kernel
theorem dX12_isTray_0 : decode cX12_isTray 0 = .ok (.iload_n 1, 1) := by decide +kernel
theorem dX12_isTray_1 : decode cX12_isTray 1 = .ok (.i2l, 1) := by decide +kernel
theorem dX12_isTray_2 : decode cX12_isTray 2 = .ok (.lconst 0, 1) := by decide +kernel
theorem dX12_isTray_3 : decode cX12_isTray 3 = .ok (.ldc2_w 115, 3) := by decide +kernel
theorem dX12_isTray_6 : decode cX12_isTray 6 = .ok (.invokestatic 117, 3) := by decide +kernel
theorem dX12_isTray_9 : decode cX12_isTray 9 = .ok (.ireturn, 1) := by decide +kernel
theorem dX12_isWell_0 : decode cX12_isWell 0 = .ok (.aload_n 0, 1) := by decide +kernel
theorem dX12_isWell_1 : decode cX12_isWell 1 = .ok (.aload_n 0, 1) := by decide +kernel
theorem dX12_isWell_2 : decode cX12_isWell 2 = .ok (.getfield 174, 3) := by decide +kernel
theorem dX12_isWell_5 : decode cX12_isWell 5 = .ok (.putfield 28, 3) := by decide +kernel
theorem dX12_isWell_8 : decode cX12_isWell 8 = .ok (.aload_n 0, 1) := by decide +kernel
theorem dX12_isWell_9 : decode cX12_isWell 9 = .ok (.aload_n 0, 1) := by decide +kernel
theorem dX12_isWell_10 : decode cX12_isWell 10 = .ok (.getfield 174, 3) := by decide +kernel
theorem dX12_isWell_13 : decode cX12_isWell 13 = .ok (.ifCond .ne 7, 3) := by decide +kernel
theorem dX12_isWell_16 : decode cX12_isWell 16 = .ok (.iconst (-1), 1) := by decide +kernel
theorem dX12_isWell_17 : decode cX12_isWell 17 = .ok (.goto 7, 3) := by decide +kernel
theorem dX12_isWell_24 : decode cX12_isWell 24 = .ok (.putfield 32, 3) := by decide +kernel
theorem dX12_isWell_27 : decode cX12_isWell 27 = .ok (.aload_n 0, 1) := by decide +kernel
theorem dX12_isWell_28 : decode cX12_isWell 28 = .ok (.getfield 174, 3) := by decide +kernel
theorem dX12_isWell_31 : decode cX12_isWell 31 = .ok (.ifCond .eq 12, 3) := by decide +kernel
theorem dX12_isWell_43 : decode cX12_isWell 43 = .ok (.iconst 1, 1) := by decide +kernel
theorem dX12_isWell_44 : decode cX12_isWell 44 = .ok (.goto 4, 3) := by decide +kernel
theorem dX12_isWell_48 : decode cX12_isWell 48 = .ok (.ireturn, 1) := by decide +kernel
theorem dX12_key_0 : decode cX12_key 0 = .ok (.aload_n 0, 1) := by decide +kernel
theorem dX12_key_1 : decode cX12_key 1 = .ok (.iconst 0, 1) := by decide +kernel
theorem dX12_key_2 : decode cX12_key 2 = .ok (.putfield 82, 3) := by decide +kernel
theorem dX12_key_5 : decode cX12_key 5 = .ok (.aload_n 0, 1) := by decide +kernel
theorem dX12_key_6 : decode cX12_key 6 = .ok (.iconst 0, 1) := by decide +kernel
theorem dX12_key_7 : decode cX12_key 7 = .ok (.putfield 85, 3) := by decide +kernel
theorem dX12_key_10 : decode cX12_key 10 = .ok (.aload_n 0, 1) := by decide +kernel
theorem dX12_key_11 : decode cX12_key 11 = .ok (.iload_n 1, 1) := by decide +kernel
theorem dX12_key_12 : decode cX12_key 12 = .ok (.i2l, 1) := by decide +kernel
theorem dX12_key_13 : decode cX12_key 13 = .ok (.invokevirtual 275, 3) := by decide +kernel
theorem dX12_key_16 : decode cX12_key 16 = .ok (.ifCond .ne 9, 3) := by decide +kernel
theorem dX12_key_19 : decode cX12_key 19 = .ok (.aload_n 0, 1) := by decide +kernel
theorem dX12_key_20 : decode cX12_key 20 = .ok (.iconst 2, 1) := by decide +kernel
theorem dX12_key_21 : decode cX12_key 21 = .ok (.invokevirtual 269, 3) := by decide +kernel
theorem dX12_key_24 : decode cX12_key 24 = .ok (.ireturn, 1) := by decide +kernel
theorem dX12_known_0 : decode cX12_known 0 = .ok (.aload_n 0, 1) := by decide +kernel
theorem dX12_known_1 : decode cX12_known 1 = .ok (.iconst 0, 1) := by decide +kernel
theorem dX12_known_2 : decode cX12_known 2 = .ok (.putfield 82, 3) := by decide +kernel
theorem dX12_known_5 : decode cX12_known 5 = .ok (.aload_n 0, 1) := by decide +kernel
theorem dX12_known_6 : decode cX12_known 6 = .ok (.iconst 0, 1) := by decide +kernel
theorem dX12_known_7 : decode cX12_known 7 = .ok (.putfield 85, 3) := by decide +kernel
theorem dX12_known_10 : decode cX12_known 10 = .ok (.aload_n 0, 1) := by decide +kernel
theorem dX12_known_11 : decode cX12_known 11 = .ok (.iload_n 1, 1) := by decide +kernel
theorem dX12_known_12 : decode cX12_known 12 = .ok (.invokevirtual 289, 3) := by decide +kernel
theorem dX12_known_15 : decode cX12_known 15 = .ok (.ifCond .ne 9, 3) := by decide +kernel
theorem dX12_known_18 : decode cX12_known 18 = .ok (.aload_n 0, 1) := by decide +kernel
theorem dX12_known_19 : decode cX12_known 19 = .ok (.iconst 2, 1) := by decide +kernel
theorem dX12_known_20 : decode cX12_known 20 = .ok (.invokevirtual 269, 3) := by decide +kernel
theorem dX12_known_23 : decode cX12_known 23 = .ok (.ireturn, 1) := by decide +kernel
theorem dX12_laid_0 : decode cX12_laid 0 = .ok (.aload_n 0, 1) := by decide +kernel
theorem dX12_laid_1 : decode cX12_laid 1 = .ok (.iconst 0, 1) := by decide +kernel
theorem dX12_laid_2 : decode cX12_laid 2 = .ok (.putfield 82, 3) := by decide +kernel
theorem dX12_laid_5 : decode cX12_laid 5 = .ok (.aload_n 0, 1) := by decide +kernel
theorem dX12_laid_6 : decode cX12_laid 6 = .ok (.iconst 0, 1) := by decide +kernel
theorem dX12_laid_7 : decode cX12_laid 7 = .ok (.putfield 85, 3) := by decide +kernel
theorem dX12_laid_10 : decode cX12_laid 10 = .ok (.aload_n 0, 1) := by decide +kernel
theorem dX12_laid_11 : decode cX12_laid 11 = .ok (.iload_n 1, 1) := by decide +kernel
theorem dX12_laid_12 : decode cX12_laid 12 = .ok (.invokevirtual 289, 3) := by decide +kernel
theorem dX12_laid_15 : decode cX12_laid 15 = .ok (.ifCond .ne 9, 3) := by decide +kernel
theorem dX12_laid_18 : decode cX12_laid 18 = .ok (.aload_n 0, 1) := by decide +kernel
theorem dX12_laid_19 : decode cX12_laid 19 = .ok (.iconst 2, 1) := by decide +kernel
theorem dX12_laid_20 : decode cX12_laid 20 = .ok (.invokevirtual 269, 3) := by decide +kernel
theorem dX12_laid_23 : decode cX12_laid 23 = .ok (.ireturn, 1) := by decide +kernel
theorem dX12_laidForRound_0 : decode cX12_laidForRound 0 = .ok (.aload_n 0, 1) := by decide +kernel
theorem dX12_laidForRound_1 : decode cX12_laidForRound 1 = .ok (.iconst 0, 1) := by decide +kernel
theorem dX12_laidForRound_2 : decode cX12_laidForRound 2 = .ok (.putfield 82, 3) := by decide +kernel
theorem dX12_laidForRound_5 : decode cX12_laidForRound 5 = .ok (.aload_n 0, 1) := by decide +kernel
theorem dX12_laidForRound_6 : decode cX12_laidForRound 6 = .ok (.iconst 0, 1) := by decide +kernel
theorem dX12_laidForRound_7 : decode cX12_laidForRound 7 = .ok (.putfield 85, 3) := by decide +kernel
theorem dX12_laidForRound_10 : decode cX12_laidForRound 10 = .ok (.aload_n 0, 1) := by decide +kernel
theorem dX12_laidForRound_11 : decode cX12_laidForRound 11 = .ok (.iload_n 1, 1) := by decide +kernel
theorem dX12_laidForRound_12 : decode cX12_laidForRound 12 = .ok (.invokevirtual 289, 3) := by decide +kernel
theorem dX12_laidForRound_15 : decode cX12_laidForRound 15 = .ok (.ifCond .ne 9, 3) := by decide +kernel
theorem dX12_laidForRound_18 : decode cX12_laidForRound 18 = .ok (.aload_n 0, 1) := by decide +kernel
theorem dX12_laidForRound_19 : decode cX12_laidForRound 19 = .ok (.iconst 2, 1) := by decide +kernel
theorem dX12_laidForRound_20 : decode cX12_laidForRound 20 = .ok (.invokevirtual 269, 3) := by decide +kernel
theorem dX12_laidForRound_23 : decode cX12_laidForRound 23 = .ok (.ireturn, 1) := by decide +kernel
theorem dX12_lay_0 : decode cX12_lay 0 = .ok (.aload_n 0, 1) := by decide +kernel
theorem dX12_lay_1 : decode cX12_lay 1 = .ok (.iconst 0, 1) := by decide +kernel
theorem dX12_lay_2 : decode cX12_lay 2 = .ok (.putfield 82, 3) := by decide +kernel
theorem dX12_lay_5 : decode cX12_lay 5 = .ok (.aload_n 0, 1) := by decide +kernel
theorem dX12_lay_6 : decode cX12_lay 6 = .ok (.iconst 0, 1) := by decide +kernel
theorem dX12_lay_7 : decode cX12_lay 7 = .ok (.putfield 85, 3) := by decide +kernel
theorem dX12_lay_10 : decode cX12_lay 10 = .ok (.aload_n 0, 1) := by decide +kernel
theorem dX12_lay_11 : decode cX12_lay 11 = .ok (.iload_n 2, 1) := by decide +kernel
theorem dX12_lay_12 : decode cX12_lay 12 = .ok (.invokevirtual 298, 3) := by decide +kernel
theorem dX12_lay_15 : decode cX12_lay 15 = .ok (.ifCond .ne 9, 3) := by decide +kernel
theorem dX12_lay_18 : decode cX12_lay 18 = .ok (.aload_n 0, 1) := by decide +kernel
theorem dX12_lay_19 : decode cX12_lay 19 = .ok (.iconst 1, 1) := by decide +kernel
theorem dX12_lay_20 : decode cX12_lay 20 = .ok (.invokevirtual 97, 3) := by decide +kernel
theorem dX12_lay_23 : decode cX12_lay 23 = .ok (.ireturn, 1) := by decide +kernel
theorem dX12_lay_24 : decode cX12_lay 24 = .ok (.aload_n 0, 1) := by decide +kernel
theorem dX12_lay_25 : decode cX12_lay 25 = .ok (.iload_n 1, 1) := by decide +kernel
theorem dX12_lay_26 : decode cX12_lay 26 = .ok (.invokevirtual 289, 3) := by decide +kernel
theorem dX12_lay_29 : decode cX12_lay 29 = .ok (.ifCond .ne 9, 3) := by decide +kernel
theorem dX12_lay_32 : decode cX12_lay 32 = .ok (.aload_n 0, 1) := by decide +kernel
theorem dX12_lay_33 : decode cX12_lay 33 = .ok (.iconst 2, 1) := by decide +kernel
theorem dX12_lay_34 : decode cX12_lay 34 = .ok (.invokevirtual 97, 3) := by decide +kernel
theorem dX12_lay_37 : decode cX12_lay 37 = .ok (.ireturn, 1) := by decide +kernel
theorem dX12_layByte_0 : decode cX12_layByte 0 = .ok (.iconst 3, 1) := by decide +kernel
theorem dX12_layByte_1 : decode cX12_layByte 1 = .ok (.istore_n 2, 1) := by decide +kernel
theorem dX12_layByte_2 : decode cX12_layByte 2 = .ok (.iload_n 2, 1) := by decide +kernel
theorem dX12_layByte_3 : decode cX12_layByte 3 = .ok (.ifCond .lt 35, 3) := by decide +kernel
theorem dX12_layByte_6 : decode cX12_layByte 6 = .ok (.aload_n 0, 1) := by decide +kernel
theorem dX12_layByte_7 : decode cX12_layByte 7 = .ok (.getfield 24, 3) := by decide +kernel
theorem dX12_layByte_10 : decode cX12_layByte 10 = .ok (.aload_n 0, 1) := by decide +kernel
theorem dX12_layByte_11 : decode cX12_layByte 11 = .ok (.getfield 190, 3) := by decide +kernel
theorem dX12_layByte_14 : decode cX12_layByte 14 = .ok (.iload_n 1, 1) := by decide +kernel
theorem dX12_layByte_15 : decode cX12_layByte 15 = .ok (.bipush 8, 2) := by decide +kernel
theorem dX12_layByte_17 : decode cX12_layByte 17 = .ok (.iload_n 2, 1) := by decide +kernel
theorem dX12_layByte_18 : decode cX12_layByte 18 = .ok (.imul, 1) := by decide +kernel
theorem dX12_layByte_19 : decode cX12_layByte 19 = .ok (.ishr, 1) := by decide +kernel
theorem dX12_layByte_20 : decode cX12_layByte 20 = .ok (.i2b, 1) := by decide +kernel
theorem dX12_layByte_21 : decode cX12_layByte 21 = .ok (.bastore, 1) := by decide +kernel
theorem dX12_layByte_22 : decode cX12_layByte 22 = .ok (.aload_n 0, 1) := by decide +kernel
theorem dX12_layByte_23 : decode cX12_layByte 23 = .ok (.dup, 1) := by decide +kernel
theorem dX12_layByte_24 : decode cX12_layByte 24 = .ok (.getfield 190, 3) := by decide +kernel
theorem dX12_layByte_27 : decode cX12_layByte 27 = .ok (.iconst 1, 1) := by decide +kernel
theorem dX12_layByte_28 : decode cX12_layByte 28 = .ok (.iadd, 1) := by decide +kernel
theorem dX12_layByte_29 : decode cX12_layByte 29 = .ok (.putfield 190, 3) := by decide +kernel
theorem dX12_layByte_32 : decode cX12_layByte 32 = .ok (.iinc 2 (-1), 3) := by decide +kernel
theorem dX12_layByte_35 : decode cX12_layByte 35 = .ok (.goto (-33), 3) := by decide +kernel
theorem dX12_layByte_38 : decode cX12_layByte 38 = .ok (.return_, 1) := by decide +kernel
theorem dX12_lend_0 : decode cX12_lend 0 = .ok (.aload_n 0, 1) := by decide +kernel
theorem dX12_lend_1 : decode cX12_lend 1 = .ok (.iconst 0, 1) := by decide +kernel
theorem dX12_lend_2 : decode cX12_lend 2 = .ok (.putfield 82, 3) := by decide +kernel
theorem dX12_lend_5 : decode cX12_lend 5 = .ok (.aload_n 0, 1) := by decide +kernel
theorem dX12_lend_6 : decode cX12_lend 6 = .ok (.iconst 0, 1) := by decide +kernel
theorem dX12_lend_7 : decode cX12_lend 7 = .ok (.putfield 85, 3) := by decide +kernel
theorem dX12_lend_10 : decode cX12_lend 10 = .ok (.aload_n 0, 1) := by decide +kernel
theorem dX12_lend_11 : decode cX12_lend 11 = .ok (.iload_n 1, 1) := by decide +kernel
theorem dX12_lend_12 : decode cX12_lend 12 = .ok (.i2l, 1) := by decide +kernel
theorem dX12_lend_13 : decode cX12_lend 13 = .ok (.invokevirtual 275, 3) := by decide +kernel
theorem dX12_lend_16 : decode cX12_lend 16 = .ok (.ifCond .ne 9, 3) := by decide +kernel
theorem dX12_lend_19 : decode cX12_lend 19 = .ok (.aload_n 0, 1) := by decide +kernel
theorem dX12_lend_20 : decode cX12_lend 20 = .ok (.iconst 2, 1) := by decide +kernel
theorem dX12_lend_21 : decode cX12_lend 21 = .ok (.invokevirtual 97, 3) := by decide +kernel
theorem dX12_lend_24 : decode cX12_lend 24 = .ok (.ireturn, 1) := by decide +kernel
theorem dX12_many_0 : decode cX12_many 0 = .ok (.aload_n 0, 1) := by decide +kernel
theorem dX12_many_1 : decode cX12_many 1 = .ok (.iconst 0, 1) := by decide +kernel
theorem dX12_many_2 : decode cX12_many 2 = .ok (.putfield 82, 3) := by decide +kernel
theorem dX12_many_5 : decode cX12_many 5 = .ok (.aload_n 0, 1) := by decide +kernel
theorem dX12_many_6 : decode cX12_many 6 = .ok (.iconst 0, 1) := by decide +kernel
theorem dX12_many_7 : decode cX12_many 7 = .ok (.putfield 85, 3) := by decide +kernel
theorem dX12_many_10 : decode cX12_many 10 = .ok (.iload_n 1, 1) := by decide +kernel
theorem dX12_many_11 : decode cX12_many 11 = .ok (.i2l, 1) := by decide +kernel
theorem dX12_many_12 : decode cX12_many 12 = .ok (.lconst 0, 1) := by decide +kernel
theorem dX12_many_13 : decode cX12_many 13 = .ok (.ldc2_w 267, 3) := by decide +kernel
theorem dX12_many_16 : decode cX12_many 16 = .ok (.invokestatic 117, 3) := by decide +kernel
theorem dX12_many_19 : decode cX12_many 19 = .ok (.ifCond .eq 12, 3) := by decide +kernel
theorem dX12_many_22 : decode cX12_many 22 = .ok (.aload_n 0, 1) := by decide +kernel
theorem dX12_many_23 : decode cX12_many 23 = .ok (.getfield 35, 3) := by decide +kernel
theorem dX12_many_26 : decode cX12_many 26 = .ok (.iload_n 1, 1) := by decide +kernel
theorem dX12_many_27 : decode cX12_many 27 = .ok (.iaload, 1) := by decide +kernel
theorem dX12_many_28 : decode cX12_many 28 = .ok (.goto 8, 3) := by decide +kernel
theorem dX12_many_31 : decode cX12_many 31 = .ok (.aload_n 0, 1) := by decide +kernel
theorem dX12_many_32 : decode cX12_many 32 = .ok (.iconst 5, 1) := by decide +kernel
theorem dX12_many_33 : decode cX12_many 33 = .ok (.invokevirtual 269, 3) := by decide +kernel
theorem dX12_many_36 : decode cX12_many 36 = .ok (.ireturn, 1) := by decide +kernel
theorem dX12_mark_0 : decode cX12_mark 0 = .ok (.aload_n 0, 1) := by decide +kernel
theorem dX12_mark_1 : decode cX12_mark 1 = .ok (.iconst 0, 1) := by decide +kernel
theorem dX12_mark_2 : decode cX12_mark 2 = .ok (.putfield 82, 3) := by decide +kernel
theorem dX12_mark_5 : decode cX12_mark 5 = .ok (.aload_n 0, 1) := by decide +kernel
theorem dX12_mark_6 : decode cX12_mark 6 = .ok (.iconst 0, 1) := by decide +kernel
theorem dX12_mark_7 : decode cX12_mark 7 = .ok (.putfield 85, 3) := by decide +kernel
theorem dX12_mark_10 : decode cX12_mark 10 = .ok (.aload_n 0, 1) := by decide +kernel
theorem dX12_mark_11 : decode cX12_mark 11 = .ok (.getfield 594, 3) := by decide +kernel
theorem dX12_mark_14 : decode cX12_mark 14 = .ok (.iconst 3, 1) := by decide +kernel
theorem dX12_mark_15 : decode cX12_mark 15 = .ok (.if_icmp .ne 10, 3) := by decide +kernel
theorem dX12_mark_25 : decode cX12_mark 25 = .ok (.aload_n 0, 1) := by decide +kernel
theorem dX12_mark_26 : decode cX12_mark 26 = .ok (.dup, 1) := by decide +kernel
theorem dX12_mark_27 : decode cX12_mark 27 = .ok (.getfield 594, 3) := by decide +kernel
theorem dX12_mark_30 : decode cX12_mark 30 = .ok (.iconst 1, 1) := by decide +kernel
theorem dX12_mark_31 : decode cX12_mark 31 = .ok (.iadd, 1) := by decide +kernel
theorem dX12_mark_32 : decode cX12_mark 32 = .ok (.putfield 594, 3) := by decide +kernel
theorem dX12_mark_35 : decode cX12_mark 35 = .ok (.aload_n 0, 1) := by decide +kernel
theorem dX12_mark_36 : decode cX12_mark 36 = .ok (.iconst 0, 1) := by decide +kernel
theorem dX12_mark_37 : decode cX12_mark 37 = .ok (.aload_n 0, 1) := by decide +kernel
theorem dX12_mark_38 : decode cX12_mark 38 = .ok (.getfield 594, 3) := by decide +kernel
theorem dX12_mark_41 : decode cX12_mark 41 = .ok (.invokevirtual 597, 3) := by decide +kernel
theorem dX12_mark_44 : decode cX12_mark 44 = .ok (.aload_n 0, 1) := by decide +kernel
theorem dX12_mark_45 : decode cX12_mark 45 = .ok (.getfield 594, 3) := by decide +kernel
theorem dX12_mark_48 : decode cX12_mark 48 = .ok (.ireturn, 1) := by decide +kernel
theorem dX12_missing_0 : decode cX12_missing 0 = .ok (.aload_n 0, 1) := by decide +kernel
theorem dX12_missing_1 : decode cX12_missing 1 = .ok (.iconst 0, 1) := by decide +kernel
theorem dX12_missing_2 : decode cX12_missing 2 = .ok (.putfield 82, 3) := by decide +kernel
theorem dX12_missing_5 : decode cX12_missing 5 = .ok (.aload_n 0, 1) := by decide +kernel
theorem dX12_missing_6 : decode cX12_missing 6 = .ok (.iconst 0, 1) := by decide +kernel
theorem dX12_missing_7 : decode cX12_missing 7 = .ok (.putfield 85, 3) := by decide +kernel
theorem dX12_missing_10 : decode cX12_missing 10 = .ok (.aload_n 0, 1) := by decide +kernel
theorem dX12_missing_11 : decode cX12_missing 11 = .ok (.iload_n 1, 1) := by decide +kernel
theorem dX12_missing_12 : decode cX12_missing 12 = .ok (.i2l, 1) := by decide +kernel
theorem dX12_missing_13 : decode cX12_missing 13 = .ok (.invokevirtual 275, 3) := by decide +kernel
theorem dX12_missing_16 : decode cX12_missing 16 = .ok (.ifCond .eq 11, 3) := by decide +kernel
theorem dX12_missing_27 : decode cX12_missing 27 = .ok (.aload_n 0, 1) := by decide +kernel
theorem dX12_missing_28 : decode cX12_missing 28 = .ok (.iconst 2, 1) := by decide +kernel
theorem dX12_missing_29 : decode cX12_missing 29 = .ok (.invokevirtual 97, 3) := by decide +kernel
theorem dX12_missing_32 : decode cX12_missing 32 = .ok (.ireturn, 1) := by decide +kernel
theorem dX12_newly_0 : decode cX12_newly 0 = .ok (.aload_n 0, 1) := by decide +kernel
theorem dX12_newly_1 : decode cX12_newly 1 = .ok (.iconst 0, 1) := by decide +kernel
theorem dX12_newly_2 : decode cX12_newly 2 = .ok (.putfield 82, 3) := by decide +kernel
theorem dX12_newly_5 : decode cX12_newly 5 = .ok (.aload_n 0, 1) := by decide +kernel
theorem dX12_newly_6 : decode cX12_newly 6 = .ok (.iconst 0, 1) := by decide +kernel
theorem dX12_newly_7 : decode cX12_newly 7 = .ok (.putfield 85, 3) := by decide +kernel
theorem dX12_newly_10 : decode cX12_newly 10 = .ok (.aload_n 0, 1) := by decide +kernel
theorem dX12_newly_11 : decode cX12_newly 11 = .ok (.iload_n 1, 1) := by decide +kernel
theorem dX12_newly_12 : decode cX12_newly 12 = .ok (.i2l, 1) := by decide +kernel
theorem dX12_newly_13 : decode cX12_newly 13 = .ok (.invokevirtual 275, 3) := by decide +kernel
theorem dX12_newly_16 : decode cX12_newly 16 = .ok (.ifCond .eq 19, 3) := by decide +kernel
theorem dX12_newly_35 : decode cX12_newly 35 = .ok (.aload_n 0, 1) := by decide +kernel
theorem dX12_newly_36 : decode cX12_newly 36 = .ok (.iconst 2, 1) := by decide +kernel
theorem dX12_newly_37 : decode cX12_newly 37 = .ok (.invokevirtual 269, 3) := by decide +kernel
theorem dX12_newly_40 : decode cX12_newly 40 = .ok (.ireturn, 1) := by decide +kernel
theorem dX12_next_0 : decode cX12_next 0 = .ok (.aload_n 0, 1) := by decide +kernel
theorem dX12_next_1 : decode cX12_next 1 = .ok (.iconst 0, 1) := by decide +kernel
theorem dX12_next_2 : decode cX12_next 2 = .ok (.putfield 82, 3) := by decide +kernel
theorem dX12_next_5 : decode cX12_next 5 = .ok (.aload_n 0, 1) := by decide +kernel
theorem dX12_next_6 : decode cX12_next 6 = .ok (.iconst 0, 1) := by decide +kernel
theorem dX12_next_7 : decode cX12_next 7 = .ok (.putfield 85, 3) := by decide +kernel
theorem dX12_next_10 : decode cX12_next 10 = .ok (.aload_n 0, 1) := by decide +kernel
theorem dX12_next_11 : decode cX12_next 11 = .ok (.iload_n 1, 1) := by decide +kernel
theorem dX12_next_12 : decode cX12_next 12 = .ok (.invokevirtual 295, 3) := by decide +kernel
theorem dX12_next_15 : decode cX12_next 15 = .ok (.ifCond .ne 9, 3) := by decide +kernel
theorem dX12_next_18 : decode cX12_next 18 = .ok (.aload_n 0, 1) := by decide +kernel
theorem dX12_next_19 : decode cX12_next 19 = .ok (.iconst 2, 1) := by decide +kernel
theorem dX12_next_20 : decode cX12_next 20 = .ok (.invokevirtual 269, 3) := by decide +kernel
theorem dX12_next_23 : decode cX12_next 23 = .ok (.ireturn, 1) := by decide +kernel
theorem dX12_next2_0 : decode cX12_next2 0 = .ok (.aload_n 0, 1) := by decide +kernel
theorem dX12_next2_1 : decode cX12_next2 1 = .ok (.aload_n 0, 1) := by decide +kernel
theorem dX12_next2_2 : decode cX12_next2 2 = .ok (.getfield 124, 3) := by decide +kernel
theorem dX12_next2_5 : decode cX12_next2 5 = .ok (.putfield 127, 3) := by decide +kernel
theorem dX12_next2_8 : decode cX12_next2 8 = .ok (.aload_n 0, 1) := by decide +kernel
theorem dX12_next2_9 : decode cX12_next2 9 = .ok (.getfield 127, 3) := by decide +kernel
theorem dX12_next2_12 : decode cX12_next2 12 = .ok (.aload_n 0, 1) := by decide +kernel
theorem dX12_next2_13 : decode cX12_next2 13 = .ok (.getfield 121, 3) := by decide +kernel
theorem dX12_next2_16 : decode cX12_next2 16 = .ok (.if_icmp .ge 42, 3) := by decide +kernel
theorem dX12_next2_58 : decode cX12_next2 58 = .ok (.aload_n 0, 1) := by decide +kernel
theorem dX12_next2_59 : decode cX12_next2 59 = .ok (.aload_n 0, 1) := by decide +kernel
theorem dX12_next2_60 : decode cX12_next2 60 = .ok (.getfield 127, 3) := by decide +kernel
theorem dX12_next2_63 : decode cX12_next2 63 = .ok (.putfield 124, 3) := by decide +kernel
theorem dX12_next2_66 : decode cX12_next2 66 = .ok (.aload_n 0, 1) := by decide +kernel
theorem dX12_next2_67 : decode cX12_next2 67 = .ok (.getfield 127, 3) := by decide +kernel
theorem dX12_next2_70 : decode cX12_next2 70 = .ok (.aload_n 0, 1) := by decide +kernel
theorem dX12_next2_71 : decode cX12_next2 71 = .ok (.getfield 121, 3) := by decide +kernel
theorem dX12_next2_74 : decode cX12_next2 74 = .ok (.if_icmp .lt 9, 3) := by decide +kernel
theorem dX12_next2_77 : decode cX12_next2 77 = .ok (.aload_n 0, 1) := by decide +kernel
theorem dX12_next2_78 : decode cX12_next2 78 = .ok (.iconst 0, 1) := by decide +kernel
theorem dX12_next2_79 : decode cX12_next2 79 = .ok (.putfield 133, 3) := by decide +kernel
theorem dX12_next2_82 : decode cX12_next2 82 = .ok (.return_, 1) := by decide +kernel
theorem dX12_no_0 : decode cX12_no 0 = .ok (.aload_n 0, 1) := by decide +kernel
theorem dX12_no_1 : decode cX12_no 1 = .ok (.iload_n 1, 1) := by decide +kernel
theorem dX12_no_2 : decode cX12_no 2 = .ok (.putfield 85, 3) := by decide +kernel
theorem dX12_no_5 : decode cX12_no 5 = .ok (.iconst 0, 1) := by decide +kernel
theorem dX12_no_6 : decode cX12_no 6 = .ok (.ireturn, 1) := by decide +kernel
theorem dX12_off_0 : decode cX12_off 0 = .ok (.aload_n 0, 1) := by decide +kernel
theorem dX12_off_1 : decode cX12_off 1 = .ok (.iconst 0, 1) := by decide +kernel
theorem dX12_off_2 : decode cX12_off 2 = .ok (.putfield 82, 3) := by decide +kernel
theorem dX12_off_5 : decode cX12_off 5 = .ok (.aload_n 0, 1) := by decide +kernel
theorem dX12_off_6 : decode cX12_off 6 = .ok (.iconst 0, 1) := by decide +kernel
theorem dX12_off_7 : decode cX12_off 7 = .ok (.putfield 85, 3) := by decide +kernel
theorem dX12_off_10 : decode cX12_off 10 = .ok (.aload_n 0, 1) := by decide +kernel
theorem dX12_off_11 : decode cX12_off 11 = .ok (.iload_n 1, 1) := by decide +kernel
theorem dX12_off_12 : decode cX12_off 12 = .ok (.i2l, 1) := by decide +kernel
theorem dX12_off_13 : decode cX12_off 13 = .ok (.invokevirtual 275, 3) := by decide +kernel
theorem dX12_off_16 : decode cX12_off 16 = .ok (.ifCond .ne 9, 3) := by decide +kernel
theorem dX12_off_19 : decode cX12_off 19 = .ok (.aload_n 0, 1) := by decide +kernel
theorem dX12_off_20 : decode cX12_off 20 = .ok (.iconst 2, 1) := by decide +kernel
theorem dX12_off_21 : decode cX12_off 21 = .ok (.invokevirtual 97, 3) := by decide +kernel
theorem dX12_off_24 : decode cX12_off 24 = .ok (.ireturn, 1) := by decide +kernel
theorem dX12_opens_0 : decode cX12_opens 0 = .ok (.aload_n 0, 1) := by decide +kernel
theorem dX12_opens_1 : decode cX12_opens 1 = .ok (.iconst 0, 1) := by decide +kernel
theorem dX12_opens_2 : decode cX12_opens 2 = .ok (.putfield 82, 3) := by decide +kernel
theorem dX12_opens_5 : decode cX12_opens 5 = .ok (.aload_n 0, 1) := by decide +kernel
theorem dX12_opens_6 : decode cX12_opens 6 = .ok (.iconst 0, 1) := by decide +kernel
theorem dX12_opens_7 : decode cX12_opens 7 = .ok (.putfield 85, 3) := by decide +kernel
theorem dX12_opens_10 : decode cX12_opens 10 = .ok (.aload_n 0, 1) := by decide +kernel
theorem dX12_opens_11 : decode cX12_opens 11 = .ok (.iload_n 1, 1) := by decide +kernel
theorem dX12_opens_12 : decode cX12_opens 12 = .ok (.invokevirtual 295, 3) := by decide +kernel
theorem dX12_opens_15 : decode cX12_opens 15 = .ok (.ifCond .ne 9, 3) := by decide +kernel
theorem dX12_opens_18 : decode cX12_opens 18 = .ok (.aload_n 0, 1) := by decide +kernel
theorem dX12_opens_19 : decode cX12_opens 19 = .ok (.iconst 2, 1) := by decide +kernel
theorem dX12_opens_20 : decode cX12_opens 20 = .ok (.invokevirtual 97, 3) := by decide +kernel
theorem dX12_opens_23 : decode cX12_opens 23 = .ok (.ireturn, 1) := by decide +kernel
theorem dX12_part_0 : decode cX12_part 0 = .ok (.aload_n 0, 1) := by decide +kernel
theorem dX12_part_1 : decode cX12_part 1 = .ok (.iconst 0, 1) := by decide +kernel
theorem dX12_part_2 : decode cX12_part 2 = .ok (.putfield 82, 3) := by decide +kernel
theorem dX12_part_5 : decode cX12_part 5 = .ok (.aload_n 0, 1) := by decide +kernel
theorem dX12_part_6 : decode cX12_part 6 = .ok (.iconst 0, 1) := by decide +kernel
theorem dX12_part_7 : decode cX12_part 7 = .ok (.putfield 85, 3) := by decide +kernel
theorem dX12_part_10 : decode cX12_part 10 = .ok (.aload_n 0, 1) := by decide +kernel
theorem dX12_part_11 : decode cX12_part 11 = .ok (.invokevirtual 323, 3) := by decide +kernel
theorem dX12_part_14 : decode cX12_part 14 = .ok (.ifCond .ne 10, 3) := by decide +kernel
theorem dX12_part_17 : decode cX12_part 17 = .ok (.aload_n 0, 1) := by decide +kernel
theorem dX12_part_18 : decode cX12_part 18 = .ok (.bipush 8, 2) := by decide +kernel
theorem dX12_part_20 : decode cX12_part 20 = .ok (.invokevirtual 269, 3) := by decide +kernel
theorem dX12_part_23 : decode cX12_part 23 = .ok (.ireturn, 1) := by decide +kernel
theorem dX12_placed_0 : decode cX12_placed 0 = .ok (.aload_n 0, 1) := by decide +kernel
theorem dX12_placed_1 : decode cX12_placed 1 = .ok (.iload_n 1, 1) := by decide +kernel
theorem dX12_placed_2 : decode cX12_placed 2 = .ok (.invokevirtual 101, 3) := by decide +kernel
theorem dX12_placed_5 : decode cX12_placed 5 = .ok (.istore_n 3, 1) := by decide +kernel
theorem dX12_placed_6 : decode cX12_placed 6 = .ok (.iload_n 3, 1) := by decide +kernel
theorem dX12_placed_7 : decode cX12_placed 7 = .ok (.ifCond .le 7, 3) := by decide +kernel
theorem dX12_placed_10 : decode cX12_placed 10 = .ok (.iload_n 3, 1) := by decide +kernel
theorem dX12_placed_11 : decode cX12_placed 11 = .ok (.goto 22, 3) := by decide +kernel
theorem dX12_placed_33 : decode cX12_placed 33 = .ok (.ireturn, 1) := by decide +kernel
theorem dX12_play_0 : decode cX12_play 0 = .ok (.aload_n 0, 1) := by decide +kernel
theorem dX12_play_1 : decode cX12_play 1 = .ok (.iconst 0, 1) := by decide +kernel
theorem dX12_play_2 : decode cX12_play 2 = .ok (.putfield 82, 3) := by decide +kernel
theorem dX12_play_5 : decode cX12_play 5 = .ok (.aload_n 0, 1) := by decide +kernel
theorem dX12_play_6 : decode cX12_play 6 = .ok (.iconst 0, 1) := by decide +kernel
theorem dX12_play_7 : decode cX12_play 7 = .ok (.putfield 85, 3) := by decide +kernel
theorem dX12_play_10 : decode cX12_play 10 = .ok (.aload_n 0, 1) := by decide +kernel
theorem dX12_play_11 : decode cX12_play 11 = .ok (.iload_n 1, 1) := by decide +kernel
theorem dX12_play_12 : decode cX12_play 12 = .ok (.invokevirtual 289, 3) := by decide +kernel
theorem dX12_play_15 : decode cX12_play 15 = .ok (.ifCond .eq 11, 3) := by decide +kernel
theorem dX12_play_26 : decode cX12_play 26 = .ok (.aload_n 0, 1) := by decide +kernel
theorem dX12_play_27 : decode cX12_play 27 = .ok (.iconst 2, 1) := by decide +kernel
theorem dX12_play_28 : decode cX12_play 28 = .ok (.invokevirtual 269, 3) := by decide +kernel
theorem dX12_play_31 : decode cX12_play 31 = .ok (.ireturn, 1) := by decide +kernel
theorem dX12_played_0 : decode cX12_played 0 = .ok (.aload_n 0, 1) := by decide +kernel
theorem dX12_played_1 : decode cX12_played 1 = .ok (.iconst 0, 1) := by decide +kernel
theorem dX12_played_2 : decode cX12_played 2 = .ok (.putfield 82, 3) := by decide +kernel
theorem dX12_played_5 : decode cX12_played 5 = .ok (.aload_n 0, 1) := by decide +kernel
theorem dX12_played_6 : decode cX12_played 6 = .ok (.iconst 0, 1) := by decide +kernel
theorem dX12_played_7 : decode cX12_played 7 = .ok (.putfield 85, 3) := by decide +kernel
theorem dX12_played_10 : decode cX12_played 10 = .ok (.iload_n 1, 1) := by decide +kernel
theorem dX12_played_11 : decode cX12_played 11 = .ok (.i2l, 1) := by decide +kernel
theorem dX12_played_12 : decode cX12_played 12 = .ok (.lconst 0, 1) := by decide +kernel
theorem dX12_played_13 : decode cX12_played 13 = .ok (.ldc2_w 590, 3) := by decide +kernel
theorem dX12_played_16 : decode cX12_played 16 = .ok (.invokestatic 117, 3) := by decide +kernel
theorem dX12_played_19 : decode cX12_played 19 = .ok (.ifCond .ne 9, 3) := by decide +kernel
theorem dX12_played_22 : decode cX12_played 22 = .ok (.aload_n 0, 1) := by decide +kernel
theorem dX12_played_23 : decode cX12_played 23 = .ok (.iconst 5, 1) := by decide +kernel
theorem dX12_played_24 : decode cX12_played 24 = .ok (.invokevirtual 269, 3) := by decide +kernel
theorem dX12_played_27 : decode cX12_played 27 = .ok (.ireturn, 1) := by decide +kernel
theorem dX12_played_28 : decode cX12_played 28 = .ok (.aload_n 0, 1) := by decide +kernel
theorem dX12_played_29 : decode cX12_played 29 = .ok (.getfield 587, 3) := by decide +kernel
theorem dX12_played_32 : decode cX12_played 32 = .ok (.ifCond .eq 12, 3) := by decide +kernel
theorem dX12_played_44 : decode cX12_played 44 = .ok (.aload_n 0, 1) := by decide +kernel
theorem dX12_played_45 : decode cX12_played 45 = .ok (.bipush 8, 2) := by decide +kernel
theorem dX12_played_47 : decode cX12_played 47 = .ok (.invokevirtual 269, 3) := by decide +kernel
theorem dX12_played_50 : decode cX12_played 50 = .ok (.ireturn, 1) := by decide +kernel
theorem dX12_pour_0 : decode cX12_pour 0 = .ok (.aload_n 0, 1) := by decide +kernel
theorem dX12_pour_1 : decode cX12_pour 1 = .ok (.iconst 0, 1) := by decide +kernel
theorem dX12_pour_2 : decode cX12_pour 2 = .ok (.putfield 82, 3) := by decide +kernel
theorem dX12_pour_5 : decode cX12_pour 5 = .ok (.aload_n 0, 1) := by decide +kernel
theorem dX12_pour_6 : decode cX12_pour 6 = .ok (.iconst 0, 1) := by decide +kernel
theorem dX12_pour_7 : decode cX12_pour 7 = .ok (.putfield 85, 3) := by decide +kernel
theorem dX12_pour_10 : decode cX12_pour 10 = .ok (.iload_n 1, 1) := by decide +kernel
theorem dX12_pour_11 : decode cX12_pour 11 = .ok (.ifCond .lt 17, 3) := by decide +kernel
theorem dX12_pour_14 : decode cX12_pour 14 = .ok (.iload_n 1, 1) := by decide +kernel
theorem dX12_pour_15 : decode cX12_pour 15 = .ok (.iconst 4, 1) := by decide +kernel
theorem dX12_pour_16 : decode cX12_pour 16 = .ok (.if_icmp .ge 12, 3) := by decide +kernel
theorem dX12_pour_19 : decode cX12_pour 19 = .ok (.iload_n 3, 1) := by decide +kernel
theorem dX12_pour_20 : decode cX12_pour 20 = .ok (.ifCond .lt 8, 3) := by decide +kernel
theorem dX12_pour_23 : decode cX12_pour 23 = .ok (.iload_n 3, 1) := by decide +kernel
theorem dX12_pour_24 : decode cX12_pour 24 = .ok (.iconst 4, 1) := by decide +kernel
theorem dX12_pour_25 : decode cX12_pour 25 = .ok (.if_icmp .lt 9, 3) := by decide +kernel
theorem dX12_pour_28 : decode cX12_pour 28 = .ok (.aload_n 0, 1) := by decide +kernel
theorem dX12_pour_29 : decode cX12_pour 29 = .ok (.iconst 1, 1) := by decide +kernel
theorem dX12_pour_30 : decode cX12_pour 30 = .ok (.invokevirtual 97, 3) := by decide +kernel
theorem dX12_pour_33 : decode cX12_pour 33 = .ok (.ireturn, 1) := by decide +kernel
theorem dX12_pour_34 : decode cX12_pour 34 = .ok (.aload_n 0, 1) := by decide +kernel
theorem dX12_pour_35 : decode cX12_pour 35 = .ok (.getfield 17, 3) := by decide +kernel
theorem dX12_pour_38 : decode cX12_pour 38 = .ok (.iload_n 1, 1) := by decide +kernel
theorem dX12_pour_39 : decode cX12_pour 39 = .ok (.iaload, 1) := by decide +kernel
theorem dX12_pour_40 : decode cX12_pour 40 = .ok (.ifCond .lt 12, 3) := by decide +kernel
theorem dX12_pour_52 : decode cX12_pour 52 = .ok (.aload_n 0, 1) := by decide +kernel
theorem dX12_pour_53 : decode cX12_pour 53 = .ok (.iconst 3, 1) := by decide +kernel
theorem dX12_pour_54 : decode cX12_pour 54 = .ok (.invokevirtual 97, 3) := by decide +kernel
theorem dX12_pour_57 : decode cX12_pour 57 = .ok (.ireturn, 1) := by decide +kernel
theorem dX12_put_0 : decode cX12_put 0 = .ok (.aload_n 0, 1) := by decide +kernel
theorem dX12_put_1 : decode cX12_put 1 = .ok (.iconst 0, 1) := by decide +kernel
theorem dX12_put_2 : decode cX12_put 2 = .ok (.putfield 82, 3) := by decide +kernel
theorem dX12_put_5 : decode cX12_put 5 = .ok (.aload_n 0, 1) := by decide +kernel
theorem dX12_put_6 : decode cX12_put 6 = .ok (.iconst 0, 1) := by decide +kernel
theorem dX12_put_7 : decode cX12_put 7 = .ok (.putfield 85, 3) := by decide +kernel
theorem dX12_put_10 : decode cX12_put 10 = .ok (.aload_n 0, 1) := by decide +kernel
theorem dX12_put_11 : decode cX12_put 11 = .ok (.iload_n 1, 1) := by decide +kernel
theorem dX12_put_12 : decode cX12_put 12 = .ok (.i2l, 1) := by decide +kernel
theorem dX12_put_13 : decode cX12_put 13 = .ok (.invokevirtual 275, 3) := by decide +kernel
theorem dX12_put_16 : decode cX12_put 16 = .ok (.ifCond .eq 11, 3) := by decide +kernel
theorem dX12_put_27 : decode cX12_put 27 = .ok (.aload_n 0, 1) := by decide +kernel
theorem dX12_put_28 : decode cX12_put 28 = .ok (.iconst 2, 1) := by decide +kernel
theorem dX12_put_29 : decode cX12_put 29 = .ok (.invokevirtual 97, 3) := by decide +kernel
theorem dX12_put_32 : decode cX12_put 32 = .ok (.ireturn, 1) := by decide +kernel
theorem dX12_read_0 : decode cX12_read 0 = .ok (.aload_n 0, 1) := by decide +kernel
theorem dX12_read_1 : decode cX12_read 1 = .ok (.iconst 0, 1) := by decide +kernel
theorem dX12_read_2 : decode cX12_read 2 = .ok (.putfield 82, 3) := by decide +kernel
theorem dX12_read_5 : decode cX12_read 5 = .ok (.aload_n 0, 1) := by decide +kernel
theorem dX12_read_6 : decode cX12_read 6 = .ok (.aload_n 0, 1) := by decide +kernel
theorem dX12_read_7 : decode cX12_read 7 = .ok (.iload_n 1, 1) := by decide +kernel
theorem dX12_read_8 : decode cX12_read 8 = .ok (.iload_n 2, 1) := by decide +kernel
theorem dX12_read_9 : decode cX12_read 9 = .ok (.invokevirtual 105, 3) := by decide +kernel
theorem dX12_read_12 : decode cX12_read 12 = .ok (.putfield 85, 3) := by decide +kernel
theorem dX12_read_15 : decode cX12_read 15 = .ok (.aload_n 0, 1) := by decide +kernel
theorem dX12_read_16 : decode cX12_read 16 = .ok (.getfield 85, 3) := by decide +kernel
theorem dX12_read_19 : decode cX12_read 19 = .ok (.ifCond .le 9, 3) := by decide +kernel
theorem dX12_read_22 : decode cX12_read 22 = .ok (.ldc2_w 113, 3) := by decide +kernel
theorem dX12_read_25 : decode cX12_read 25 = .ok (.goto 14, 3) := by decide +kernel
theorem dX12_read_39 : decode cX12_read 39 = .ok (.lreturn, 1) := by decide +kernel
theorem dX12_refuse_0 : decode cX12_refuse 0 = .ok (.aload_n 0, 1) := by decide +kernel
theorem dX12_refuse_1 : decode cX12_refuse 1 = .ok (.iload_n 1, 1) := by decide +kernel
theorem dX12_refuse_2 : decode cX12_refuse 2 = .ok (.putfield 85, 3) := by decide +kernel
theorem dX12_refuse_5 : decode cX12_refuse 5 = .ok (.iconst (-1), 1) := by decide +kernel
theorem dX12_refuse_6 : decode cX12_refuse 6 = .ok (.ireturn, 1) := by decide +kernel
theorem dX12_ring_0 : decode cX12_ring 0 = .ok (.aload_n 0, 1) := by decide +kernel
theorem dX12_ring_1 : decode cX12_ring 1 = .ok (.iconst 0, 1) := by decide +kernel
theorem dX12_ring_2 : decode cX12_ring 2 = .ok (.putfield 82, 3) := by decide +kernel
theorem dX12_ring_5 : decode cX12_ring 5 = .ok (.aload_n 0, 1) := by decide +kernel
theorem dX12_ring_6 : decode cX12_ring 6 = .ok (.iconst 0, 1) := by decide +kernel
theorem dX12_ring_7 : decode cX12_ring 7 = .ok (.putfield 85, 3) := by decide +kernel
theorem dX12_ring_10 : decode cX12_ring 10 = .ok (.aload_n 0, 1) := by decide +kernel
theorem dX12_ring_11 : decode cX12_ring 11 = .ok (.iload_n 1, 1) := by decide +kernel
theorem dX12_ring_12 : decode cX12_ring 12 = .ok (.invokevirtual 289, 3) := by decide +kernel
theorem dX12_ring_15 : decode cX12_ring 15 = .ok (.ifCond .ne 9, 3) := by decide +kernel
theorem dX12_ring_18 : decode cX12_ring 18 = .ok (.aload_n 0, 1) := by decide +kernel
theorem dX12_ring_19 : decode cX12_ring 19 = .ok (.iconst 2, 1) := by decide +kernel
theorem dX12_ring_20 : decode cX12_ring 20 = .ok (.invokevirtual 269, 3) := by decide +kernel
theorem dX12_ring_23 : decode cX12_ring 23 = .ok (.ireturn, 1) := by decide +kernel
theorem dX12_round_0 : decode cX12_round 0 = .ok (.aload_n 0, 1) := by decide +kernel
theorem dX12_round_1 : decode cX12_round 1 = .ok (.iconst 0, 1) := by decide +kernel
theorem dX12_round_2 : decode cX12_round 2 = .ok (.putfield 82, 3) := by decide +kernel
theorem dX12_round_5 : decode cX12_round 5 = .ok (.aload_n 0, 1) := by decide +kernel
theorem dX12_round_6 : decode cX12_round 6 = .ok (.iconst 0, 1) := by decide +kernel
theorem dX12_round_7 : decode cX12_round 7 = .ok (.putfield 85, 3) := by decide +kernel
theorem dX12_round_10 : decode cX12_round 10 = .ok (.iload_n 1, 1) := by decide +kernel
theorem dX12_round_11 : decode cX12_round 11 = .ok (.i2l, 1) := by decide +kernel
theorem dX12_round_12 : decode cX12_round 12 = .ok (.lconst 0, 1) := by decide +kernel
theorem dX12_round_13 : decode cX12_round 13 = .ok (.aload_n 0, 1) := by decide +kernel
theorem dX12_round_14 : decode cX12_round 14 = .ok (.getfield 35, 3) := by decide +kernel
theorem dX12_round_17 : decode cX12_round 17 = .ok (.iconst 4, 1) := by decide +kernel
theorem dX12_round_18 : decode cX12_round 18 = .ok (.iaload, 1) := by decide +kernel
theorem dX12_round_19 : decode cX12_round 19 = .ok (.iconst 1, 1) := by decide +kernel
theorem dX12_round_20 : decode cX12_round 20 = .ok (.isub, 1) := by decide +kernel
theorem dX12_round_21 : decode cX12_round 21 = .ok (.i2l, 1) := by decide +kernel
theorem dX12_round_22 : decode cX12_round 22 = .ok (.invokestatic 117, 3) := by decide +kernel
theorem dX12_round_25 : decode cX12_round 25 = .ok (.ifCond .eq 16, 3) := by decide +kernel
theorem dX12_round_41 : decode cX12_round 41 = .ok (.aload_n 0, 1) := by decide +kernel
theorem dX12_round_42 : decode cX12_round 42 = .ok (.bipush 8, 2) := by decide +kernel
theorem dX12_round_44 : decode cX12_round 44 = .ok (.invokevirtual 269, 3) := by decide +kernel
theorem dX12_round_47 : decode cX12_round 47 = .ok (.ireturn, 1) := by decide +kernel
theorem dX12_rule_0 : decode cX12_rule 0 = .ok (.aload_n 0, 1) := by decide +kernel
theorem dX12_rule_1 : decode cX12_rule 1 = .ok (.iconst 0, 1) := by decide +kernel
theorem dX12_rule_2 : decode cX12_rule 2 = .ok (.putfield 82, 3) := by decide +kernel
theorem dX12_rule_5 : decode cX12_rule 5 = .ok (.aload_n 0, 1) := by decide +kernel
theorem dX12_rule_6 : decode cX12_rule 6 = .ok (.iconst 0, 1) := by decide +kernel
theorem dX12_rule_7 : decode cX12_rule 7 = .ok (.putfield 85, 3) := by decide +kernel
theorem dX12_rule_10 : decode cX12_rule 10 = .ok (.aload_n 0, 1) := by decide +kernel
theorem dX12_rule_11 : decode cX12_rule 11 = .ok (.iload_n 1, 1) := by decide +kernel
theorem dX12_rule_12 : decode cX12_rule 12 = .ok (.sipush 300, 3) := by decide +kernel
theorem dX12_rule_15 : decode cX12_rule 15 = .ok (.invokevirtual 233, 3) := by decide +kernel
theorem dX12_rule_18 : decode cX12_rule 18 = .ok (.ifCond .ne 5, 3) := by decide +kernel
theorem dX12_rule_21 : decode cX12_rule 21 = .ok (.iconst (-1), 1) := by decide +kernel
theorem dX12_rule_22 : decode cX12_rule 22 = .ok (.ireturn, 1) := by decide +kernel
theorem dX12_rule_23 : decode cX12_rule 23 = .ok (.aload_n 0, 1) := by decide +kernel
theorem dX12_rule_24 : decode cX12_rule 24 = .ok (.iconst 0, 1) := by decide +kernel
theorem dX12_rule_25 : decode cX12_rule 25 = .ok (.putfield 509, 3) := by decide +kernel
theorem dX12_rule_28 : decode cX12_rule 28 = .ok (.aload_n 0, 1) := by decide +kernel
theorem dX12_rule_29 : decode cX12_rule 29 = .ok (.getfield 174, 3) := by decide +kernel
theorem dX12_rule_32 : decode cX12_rule 32 = .ok (.ifCond .ne 18, 3) := by decide +kernel
theorem dX12_rule_35 : decode cX12_rule 35 = .ok (.aload_n 0, 1) := by decide +kernel
theorem dX12_rule_36 : decode cX12_rule 36 = .ok (.getfield 133, 3) := by decide +kernel
theorem dX12_rule_39 : decode cX12_rule 39 = .ok (.ifCond .eq 11, 3) := by decide +kernel
theorem dX12_rule_50 : decode cX12_rule 50 = .ok (.aload_n 0, 1) := by decide +kernel
theorem dX12_rule_51 : decode cX12_rule 51 = .ok (.invokevirtual 261, 3) := by decide +kernel
theorem dX12_rule_54 : decode cX12_rule 54 = .ok (.ifCond .ne 5, 3) := by decide +kernel
theorem dX12_rule_59 : decode cX12_rule 59 = .ok (.aload_n 0, 1) := by decide +kernel
theorem dX12_rule_60 : decode cX12_rule 60 = .ok (.getfield 35, 3) := by decide +kernel
theorem dX12_rule_63 : decode cX12_rule 63 = .ok (.sipush 180, 3) := by decide +kernel
theorem dX12_rule_66 : decode cX12_rule 66 = .ok (.aload_n 0, 1) := by decide +kernel
theorem dX12_rule_67 : decode cX12_rule 67 = .ok (.getfield 509, 3) := by decide +kernel
theorem dX12_rule_70 : decode cX12_rule 70 = .ok (.iastore, 1) := by decide +kernel
theorem dX12_rule_71 : decode cX12_rule 71 = .ok (.iconst 0, 1) := by decide +kernel
theorem dX12_rule_72 : decode cX12_rule 72 = .ok (.istore_n 2, 1) := by decide +kernel
theorem dX12_rule_73 : decode cX12_rule 73 = .ok (.iload_n 2, 1) := by decide +kernel
theorem dX12_rule_74 : decode cX12_rule 74 = .ok (.bipush 6, 2) := by decide +kernel
theorem dX12_rule_76 : decode cX12_rule 76 = .ok (.aload_n 0, 1) := by decide +kernel
theorem dX12_rule_77 : decode cX12_rule 77 = .ok (.getfield 509, 3) := by decide +kernel
theorem dX12_rule_80 : decode cX12_rule 80 = .ok (.imul, 1) := by decide +kernel
theorem dX12_rule_81 : decode cX12_rule 81 = .ok (.if_icmp .ge 29, 3) := by decide +kernel
theorem dX12_rule_110 : decode cX12_rule 110 = .ok (.aload_n 0, 1) := by decide +kernel
theorem dX12_rule_111 : decode cX12_rule 111 = .ok (.getfield 509, 3) := by decide +kernel
theorem dX12_rule_114 : decode cX12_rule 114 = .ok (.ireturn, 1) := by decide +kernel
theorem dX12_searched_0 : decode cX12_searched 0 = .ok (.aload_n 0, 1) := by decide +kernel
theorem dX12_searched_1 : decode cX12_searched 1 = .ok (.iconst 0, 1) := by decide +kernel
theorem dX12_searched_2 : decode cX12_searched 2 = .ok (.putfield 82, 3) := by decide +kernel
theorem dX12_searched_5 : decode cX12_searched 5 = .ok (.aload_n 0, 1) := by decide +kernel
theorem dX12_searched_6 : decode cX12_searched 6 = .ok (.iconst 0, 1) := by decide +kernel
theorem dX12_searched_7 : decode cX12_searched 7 = .ok (.putfield 85, 3) := by decide +kernel
theorem dX12_searched_10 : decode cX12_searched 10 = .ok (.aload_n 0, 1) := by decide +kernel
theorem dX12_searched_11 : decode cX12_searched 11 = .ok (.iload_n 1, 1) := by decide +kernel
theorem dX12_searched_12 : decode cX12_searched 12 = .ok (.invokevirtual 289, 3) := by decide +kernel
theorem dX12_searched_15 : decode cX12_searched 15 = .ok (.ifCond .eq 11, 3) := by decide +kernel
theorem dX12_searched_26 : decode cX12_searched 26 = .ok (.aload_n 0, 1) := by decide +kernel
theorem dX12_searched_27 : decode cX12_searched 27 = .ok (.iconst 2, 1) := by decide +kernel
theorem dX12_searched_28 : decode cX12_searched 28 = .ok (.invokevirtual 269, 3) := by decide +kernel
theorem dX12_searched_31 : decode cX12_searched 31 = .ok (.ireturn, 1) := by decide +kernel
theorem dX12_soon_0 : decode cX12_soon 0 = .ok (.aload_n 0, 1) := by decide +kernel
theorem dX12_soon_1 : decode cX12_soon 1 = .ok (.iconst 0, 1) := by decide +kernel
theorem dX12_soon_2 : decode cX12_soon 2 = .ok (.putfield 82, 3) := by decide +kernel
theorem dX12_soon_5 : decode cX12_soon 5 = .ok (.aload_n 0, 1) := by decide +kernel
theorem dX12_soon_6 : decode cX12_soon 6 = .ok (.iconst 0, 1) := by decide +kernel
theorem dX12_soon_7 : decode cX12_soon 7 = .ok (.putfield 85, 3) := by decide +kernel
theorem dX12_soon_10 : decode cX12_soon 10 = .ok (.aload_n 0, 1) := by decide +kernel
theorem dX12_soon_11 : decode cX12_soon 11 = .ok (.iload_n 1, 1) := by decide +kernel
theorem dX12_soon_12 : decode cX12_soon 12 = .ok (.i2l, 1) := by decide +kernel
theorem dX12_soon_13 : decode cX12_soon 13 = .ok (.invokevirtual 275, 3) := by decide +kernel
theorem dX12_soon_16 : decode cX12_soon 16 = .ok (.ifCond .eq 11, 3) := by decide +kernel
theorem dX12_soon_27 : decode cX12_soon 27 = .ok (.aload_n 0, 1) := by decide +kernel
theorem dX12_soon_28 : decode cX12_soon 28 = .ok (.iconst 2, 1) := by decide +kernel
theorem dX12_soon_29 : decode cX12_soon 29 = .ok (.invokevirtual 269, 3) := by decide +kernel
theorem dX12_soon_32 : decode cX12_soon 32 = .ok (.ireturn, 1) := by decide +kernel
theorem dX12_status_0 : decode cX12_status 0 = .ok (.aload_n 0, 1) := by decide +kernel
theorem dX12_status_1 : decode cX12_status 1 = .ok (.iconst 0, 1) := by decide +kernel
theorem dX12_status_2 : decode cX12_status 2 = .ok (.putfield 82, 3) := by decide +kernel
theorem dX12_status_5 : decode cX12_status 5 = .ok (.aload_n 0, 1) := by decide +kernel
theorem dX12_status_6 : decode cX12_status 6 = .ok (.getfield 85, 3) := by decide +kernel
theorem dX12_status_9 : decode cX12_status 9 = .ok (.ireturn, 1) := by decide +kernel
theorem dX12_stepOf_0 : decode cX12_stepOf 0 = .ok (.aload_n 0, 1) := by decide +kernel
theorem dX12_stepOf_1 : decode cX12_stepOf 1 = .ok (.iconst 0, 1) := by decide +kernel
theorem dX12_stepOf_2 : decode cX12_stepOf 2 = .ok (.putfield 82, 3) := by decide +kernel
theorem dX12_stepOf_5 : decode cX12_stepOf 5 = .ok (.aload_n 0, 1) := by decide +kernel
theorem dX12_stepOf_6 : decode cX12_stepOf 6 = .ok (.iconst 0, 1) := by decide +kernel
theorem dX12_stepOf_7 : decode cX12_stepOf 7 = .ok (.putfield 85, 3) := by decide +kernel
theorem dX12_stepOf_10 : decode cX12_stepOf 10 = .ok (.aload_n 0, 1) := by decide +kernel
theorem dX12_stepOf_11 : decode cX12_stepOf 11 = .ok (.iload_n 1, 1) := by decide +kernel
theorem dX12_stepOf_12 : decode cX12_stepOf 12 = .ok (.i2l, 1) := by decide +kernel
theorem dX12_stepOf_13 : decode cX12_stepOf 13 = .ok (.invokevirtual 275, 3) := by decide +kernel
theorem dX12_stepOf_16 : decode cX12_stepOf 16 = .ok (.ifCond .eq 27, 3) := by decide +kernel
theorem dX12_stepOf_43 : decode cX12_stepOf 43 = .ok (.aload_n 0, 1) := by decide +kernel
theorem dX12_stepOf_44 : decode cX12_stepOf 44 = .ok (.iconst 2, 1) := by decide +kernel
theorem dX12_stepOf_45 : decode cX12_stepOf 45 = .ok (.invokevirtual 269, 3) := by decide +kernel
theorem dX12_stepOf_48 : decode cX12_stepOf 48 = .ok (.ireturn, 1) := by decide +kernel
theorem dX12_take_0 : decode cX12_take 0 = .ok (.aload_n 0, 1) := by decide +kernel
theorem dX12_take_1 : decode cX12_take 1 = .ok (.iconst 0, 1) := by decide +kernel
theorem dX12_take_2 : decode cX12_take 2 = .ok (.putfield 82, 3) := by decide +kernel
theorem dX12_take_5 : decode cX12_take 5 = .ok (.aload_n 0, 1) := by decide +kernel
theorem dX12_take_6 : decode cX12_take 6 = .ok (.iconst 0, 1) := by decide +kernel
theorem dX12_take_7 : decode cX12_take 7 = .ok (.putfield 85, 3) := by decide +kernel
theorem dX12_take_10 : decode cX12_take 10 = .ok (.aload_n 0, 1) := by decide +kernel
theorem dX12_take_11 : decode cX12_take 11 = .ok (.iload_n 1, 1) := by decide +kernel
theorem dX12_take_12 : decode cX12_take 12 = .ok (.invokevirtual 289, 3) := by decide +kernel
theorem dX12_take_15 : decode cX12_take 15 = .ok (.ifCond .ne 9, 3) := by decide +kernel
theorem dX12_take_18 : decode cX12_take 18 = .ok (.aload_n 0, 1) := by decide +kernel
theorem dX12_take_19 : decode cX12_take 19 = .ok (.iconst 2, 1) := by decide +kernel
theorem dX12_take_20 : decode cX12_take 20 = .ok (.invokevirtual 97, 3) := by decide +kernel
theorem dX12_take_23 : decode cX12_take 23 = .ok (.ireturn, 1) := by decide +kernel
theorem dX12_tally_0 : decode cX12_tally 0 = .ok (.aload_n 0, 1) := by decide +kernel
theorem dX12_tally_1 : decode cX12_tally 1 = .ok (.iconst 0, 1) := by decide +kernel
theorem dX12_tally_2 : decode cX12_tally 2 = .ok (.putfield 82, 3) := by decide +kernel
theorem dX12_tally_5 : decode cX12_tally 5 = .ok (.aload_n 0, 1) := by decide +kernel
theorem dX12_tally_6 : decode cX12_tally 6 = .ok (.iconst 0, 1) := by decide +kernel
theorem dX12_tally_7 : decode cX12_tally 7 = .ok (.putfield 85, 3) := by decide +kernel
theorem dX12_tally_10 : decode cX12_tally 10 = .ok (.aload_n 0, 1) := by decide +kernel
theorem dX12_tally_11 : decode cX12_tally 11 = .ok (.iload_n 1, 1) := by decide +kernel
theorem dX12_tally_12 : decode cX12_tally 12 = .ok (.invokevirtual 289, 3) := by decide +kernel
theorem dX12_tally_15 : decode cX12_tally 15 = .ok (.ifCond .eq 11, 3) := by decide +kernel
theorem dX12_tally_26 : decode cX12_tally 26 = .ok (.aload_n 0, 1) := by decide +kernel
theorem dX12_tally_27 : decode cX12_tally 27 = .ok (.iconst 2, 1) := by decide +kernel
theorem dX12_tally_28 : decode cX12_tally 28 = .ok (.invokevirtual 269, 3) := by decide +kernel
theorem dX12_tally_31 : decode cX12_tally 31 = .ok (.ireturn, 1) := by decide +kernel
theorem dX12_top_0 : decode cX12_top 0 = .ok (.aload_n 0, 1) := by decide +kernel
theorem dX12_top_1 : decode cX12_top 1 = .ok (.iconst 0, 1) := by decide +kernel
theorem dX12_top_2 : decode cX12_top 2 = .ok (.putfield 82, 3) := by decide +kernel
theorem dX12_top_5 : decode cX12_top 5 = .ok (.aload_n 0, 1) := by decide +kernel
theorem dX12_top_6 : decode cX12_top 6 = .ok (.getfield 88, 3) := by decide +kernel
theorem dX12_top_9 : decode cX12_top 9 = .ok (.lreturn, 1) := by decide +kernel
theorem dX12_tray_0 : decode cX12_tray 0 = .ok (.aload_n 0, 1) := by decide +kernel
theorem dX12_tray_1 : decode cX12_tray 1 = .ok (.iconst 0, 1) := by decide +kernel
theorem dX12_tray_2 : decode cX12_tray 2 = .ok (.putfield 82, 3) := by decide +kernel
theorem dX12_tray_5 : decode cX12_tray 5 = .ok (.aload_n 0, 1) := by decide +kernel
theorem dX12_tray_6 : decode cX12_tray 6 = .ok (.iconst 0, 1) := by decide +kernel
theorem dX12_tray_7 : decode cX12_tray 7 = .ok (.putfield 85, 3) := by decide +kernel
theorem dX12_tray_10 : decode cX12_tray 10 = .ok (.iload_n 1, 1) := by decide +kernel
theorem dX12_tray_11 : decode cX12_tray 11 = .ok (.ifCond .lt 17, 3) := by decide +kernel
theorem dX12_tray_14 : decode cX12_tray 14 = .ok (.iload_n 1, 1) := by decide +kernel
theorem dX12_tray_15 : decode cX12_tray 15 = .ok (.iconst 4, 1) := by decide +kernel
theorem dX12_tray_16 : decode cX12_tray 16 = .ok (.if_icmp .ge 12, 3) := by decide +kernel
theorem dX12_tray_19 : decode cX12_tray 19 = .ok (.iload_n 2, 1) := by decide +kernel
theorem dX12_tray_20 : decode cX12_tray 20 = .ok (.ifCond .lt 8, 3) := by decide +kernel
theorem dX12_tray_23 : decode cX12_tray 23 = .ok (.iload_n 2, 1) := by decide +kernel
theorem dX12_tray_24 : decode cX12_tray 24 = .ok (.iconst 3, 1) := by decide +kernel
theorem dX12_tray_25 : decode cX12_tray 25 = .ok (.if_icmp .le 9, 3) := by decide +kernel
theorem dX12_tray_28 : decode cX12_tray 28 = .ok (.aload_n 0, 1) := by decide +kernel
theorem dX12_tray_29 : decode cX12_tray 29 = .ok (.iconst 1, 1) := by decide +kernel
theorem dX12_tray_30 : decode cX12_tray 30 = .ok (.invokevirtual 97, 3) := by decide +kernel
theorem dX12_tray_33 : decode cX12_tray 33 = .ok (.ireturn, 1) := by decide +kernel
theorem dX12_tray_34 : decode cX12_tray 34 = .ok (.iload_n 3, 1) := by decide +kernel
theorem dX12_tray_35 : decode cX12_tray 35 = .ok (.bipush 60, 2) := by decide +kernel
theorem dX12_tray_37 : decode cX12_tray 37 = .ok (.if_icmp .le 9, 3) := by decide +kernel
theorem dX12_tray_40 : decode cX12_tray 40 = .ok (.aload_n 0, 1) := by decide +kernel
theorem dX12_tray_41 : decode cX12_tray 41 = .ok (.iconst 5, 1) := by decide +kernel
theorem dX12_tray_42 : decode cX12_tray 42 = .ok (.invokevirtual 97, 3) := by decide +kernel
theorem dX12_tray_45 : decode cX12_tray 45 = .ok (.ireturn, 1) := by decide +kernel
theorem dX12_tray_46 : decode cX12_tray 46 = .ok (.iload_n 3, 1) := by decide +kernel
theorem dX12_tray_47 : decode cX12_tray 47 = .ok (.ifCond .ge 10, 3) := by decide +kernel
theorem dX12_tray_50 : decode cX12_tray 50 = .ok (.aload_n 0, 1) := by decide +kernel
theorem dX12_tray_51 : decode cX12_tray 51 = .ok (.bipush 6, 2) := by decide +kernel
theorem dX12_tray_53 : decode cX12_tray 53 = .ok (.invokevirtual 97, 3) := by decide +kernel
theorem dX12_tray_56 : decode cX12_tray 56 = .ok (.ireturn, 1) := by decide +kernel
theorem dX12_tray_57 : decode cX12_tray 57 = .ok (.aload_n 0, 1) := by decide +kernel
theorem dX12_tray_58 : decode cX12_tray 58 = .ok (.getfield 13, 3) := by decide +kernel
theorem dX12_tray_61 : decode cX12_tray 61 = .ok (.iload_n 1, 1) := by decide +kernel
theorem dX12_tray_62 : decode cX12_tray 62 = .ok (.iload_n 2, 1) := by decide +kernel
theorem dX12_tray_63 : decode cX12_tray 63 = .ok (.iastore, 1) := by decide +kernel
theorem dX12_tray_64 : decode cX12_tray 64 = .ok (.aload_n 0, 1) := by decide +kernel
theorem dX12_tray_65 : decode cX12_tray 65 = .ok (.getfield 17, 3) := by decide +kernel
theorem dX12_tray_68 : decode cX12_tray 68 = .ok (.iload_n 1, 1) := by decide +kernel
theorem dX12_tray_69 : decode cX12_tray 69 = .ok (.iload_n 3, 1) := by decide +kernel
theorem dX12_tray_70 : decode cX12_tray 70 = .ok (.iastore, 1) := by decide +kernel
theorem dX12_tray_71 : decode cX12_tray 71 = .ok (.iconst 0, 1) := by decide +kernel
theorem dX12_tray_72 : decode cX12_tray 72 = .ok (.istore 4, 2) := by decide +kernel
theorem dX12_tray_74 : decode cX12_tray 74 = .ok (.iload 4, 2) := by decide +kernel
theorem dX12_tray_76 : decode cX12_tray 76 = .ok (.iload_n 3, 1) := by decide +kernel
theorem dX12_tray_77 : decode cX12_tray 77 = .ok (.if_icmp .ge 22, 3) := by decide +kernel
theorem dX12_tray_80 : decode cX12_tray 80 = .ok (.aload_n 0, 1) := by decide +kernel
theorem dX12_tray_81 : decode cX12_tray 81 = .ok (.getfield 20, 3) := by decide +kernel
theorem dX12_tray_84 : decode cX12_tray 84 = .ok (.bipush 60, 2) := by decide +kernel
theorem dX12_tray_86 : decode cX12_tray 86 = .ok (.iload_n 1, 1) := by decide +kernel
theorem dX12_tray_87 : decode cX12_tray 87 = .ok (.imul, 1) := by decide +kernel
theorem dX12_tray_88 : decode cX12_tray 88 = .ok (.iload 4, 2) := by decide +kernel
theorem dX12_tray_90 : decode cX12_tray 90 = .ok (.iadd, 1) := by decide +kernel
theorem dX12_tray_91 : decode cX12_tray 91 = .ok (.lconst 0, 1) := by decide +kernel
theorem dX12_tray_92 : decode cX12_tray 92 = .ok (.lastore, 1) := by decide +kernel
theorem dX12_tray_93 : decode cX12_tray 93 = .ok (.iinc 4 1, 3) := by decide +kernel
theorem dX12_tray_96 : decode cX12_tray 96 = .ok (.goto (-22), 3) := by decide +kernel
theorem dX12_tray_99 : decode cX12_tray 99 = .ok (.iconst 1, 1) := by decide +kernel
theorem dX12_tray_100 : decode cX12_tray 100 = .ok (.ireturn, 1) := by decide +kernel
theorem dX12_trayed_0 : decode cX12_trayed 0 = .ok (.iload_n 1, 1) := by decide +kernel
theorem dX12_trayed_1 : decode cX12_trayed 1 = .ok (.ifCond .lt 8, 3) := by decide +kernel
theorem dX12_trayed_4 : decode cX12_trayed 4 = .ok (.iload_n 1, 1) := by decide +kernel
theorem dX12_trayed_5 : decode cX12_trayed 5 = .ok (.iconst 4, 1) := by decide +kernel
theorem dX12_trayed_6 : decode cX12_trayed 6 = .ok (.if_icmp .lt 7, 3) := by decide +kernel
theorem dX12_trayed_9 : decode cX12_trayed 9 = .ok (.iconst 1, 1) := by decide +kernel
theorem dX12_trayed_10 : decode cX12_trayed 10 = .ok (.goto 17, 3) := by decide +kernel
theorem dX12_trayed_13 : decode cX12_trayed 13 = .ok (.aload_n 0, 1) := by decide +kernel
theorem dX12_trayed_14 : decode cX12_trayed 14 = .ok (.getfield 17, 3) := by decide +kernel
theorem dX12_trayed_17 : decode cX12_trayed 17 = .ok (.iload_n 1, 1) := by decide +kernel
theorem dX12_trayed_18 : decode cX12_trayed 18 = .ok (.iaload, 1) := by decide +kernel
theorem dX12_trayed_19 : decode cX12_trayed 19 = .ok (.ifCond .ge 7, 3) := by decide +kernel
theorem dX12_trayed_22 : decode cX12_trayed 22 = .ok (.iconst 3, 1) := by decide +kernel
theorem dX12_trayed_23 : decode cX12_trayed 23 = .ok (.goto 4, 3) := by decide +kernel
theorem dX12_trayed_27 : decode cX12_trayed 27 = .ok (.ireturn, 1) := by decide +kernel
theorem dX12_tried_0 : decode cX12_tried 0 = .ok (.aload_n 0, 1) := by decide +kernel
theorem dX12_tried_1 : decode cX12_tried 1 = .ok (.iconst 0, 1) := by decide +kernel
theorem dX12_tried_2 : decode cX12_tried 2 = .ok (.putfield 82, 3) := by decide +kernel
theorem dX12_tried_5 : decode cX12_tried 5 = .ok (.aload_n 0, 1) := by decide +kernel
theorem dX12_tried_6 : decode cX12_tried 6 = .ok (.iconst 0, 1) := by decide +kernel
theorem dX12_tried_7 : decode cX12_tried 7 = .ok (.putfield 85, 3) := by decide +kernel
theorem dX12_tried_10 : decode cX12_tried 10 = .ok (.aload_n 0, 1) := by decide +kernel
theorem dX12_tried_11 : decode cX12_tried 11 = .ok (.iload_n 1, 1) := by decide +kernel
theorem dX12_tried_12 : decode cX12_tried 12 = .ok (.invokevirtual 295, 3) := by decide +kernel
theorem dX12_tried_15 : decode cX12_tried 15 = .ok (.ifCond .ne 9, 3) := by decide +kernel
theorem dX12_tried_18 : decode cX12_tried 18 = .ok (.aload_n 0, 1) := by decide +kernel
theorem dX12_tried_19 : decode cX12_tried 19 = .ok (.iconst 2, 1) := by decide +kernel
theorem dX12_tried_20 : decode cX12_tried 20 = .ok (.invokevirtual 97, 3) := by decide +kernel
theorem dX12_tried_23 : decode cX12_tried 23 = .ok (.ireturn, 1) := by decide +kernel
theorem dX12_turn_0 : decode cX12_turn 0 = .ok (.aload_n 0, 1) := by decide +kernel
theorem dX12_turn_1 : decode cX12_turn 1 = .ok (.iconst 0, 1) := by decide +kernel
theorem dX12_turn_2 : decode cX12_turn 2 = .ok (.putfield 82, 3) := by decide +kernel
theorem dX12_turn_5 : decode cX12_turn 5 = .ok (.aload_n 0, 1) := by decide +kernel
theorem dX12_turn_6 : decode cX12_turn 6 = .ok (.iconst 0, 1) := by decide +kernel
theorem dX12_turn_7 : decode cX12_turn 7 = .ok (.putfield 85, 3) := by decide +kernel
theorem dX12_turn_10 : decode cX12_turn 10 = .ok (.aload_n 0, 1) := by decide +kernel
theorem dX12_turn_11 : decode cX12_turn 11 = .ok (.invokevirtual 323, 3) := by decide +kernel
theorem dX12_turn_14 : decode cX12_turn 14 = .ok (.ifCond .ne 10, 3) := by decide +kernel
theorem dX12_turn_17 : decode cX12_turn 17 = .ok (.aload_n 0, 1) := by decide +kernel
theorem dX12_turn_18 : decode cX12_turn 18 = .ok (.bipush 8, 2) := by decide +kernel
theorem dX12_turn_20 : decode cX12_turn 20 = .ok (.invokevirtual 97, 3) := by decide +kernel
theorem dX12_turn_23 : decode cX12_turn 23 = .ok (.ireturn, 1) := by decide +kernel
theorem dX12_walked_0 : decode cX12_walked 0 = .ok (.aload_n 0, 1) := by decide +kernel
theorem dX12_walked_1 : decode cX12_walked 1 = .ok (.iconst 0, 1) := by decide +kernel
theorem dX12_walked_2 : decode cX12_walked 2 = .ok (.putfield 82, 3) := by decide +kernel
theorem dX12_walked_5 : decode cX12_walked 5 = .ok (.aload_n 0, 1) := by decide +kernel
theorem dX12_walked_6 : decode cX12_walked 6 = .ok (.iconst 0, 1) := by decide +kernel
theorem dX12_walked_7 : decode cX12_walked 7 = .ok (.putfield 85, 3) := by decide +kernel
theorem dX12_walked_10 : decode cX12_walked 10 = .ok (.aload_n 0, 1) := by decide +kernel
theorem dX12_walked_11 : decode cX12_walked 11 = .ok (.iload_n 1, 1) := by decide +kernel
theorem dX12_walked_12 : decode cX12_walked 12 = .ok (.invokevirtual 289, 3) := by decide +kernel
theorem dX12_walked_15 : decode cX12_walked 15 = .ok (.ifCond .ne 9, 3) := by decide +kernel
theorem dX12_walked_18 : decode cX12_walked 18 = .ok (.aload_n 0, 1) := by decide +kernel
theorem dX12_walked_19 : decode cX12_walked 19 = .ok (.iconst 2, 1) := by decide +kernel
theorem dX12_walked_20 : decode cX12_walked 20 = .ok (.invokevirtual 269, 3) := by decide +kernel
theorem dX12_walked_23 : decode cX12_walked 23 = .ok (.ireturn, 1) := by decide +kernel
theorem dX12_worth_0 : decode cX12_worth 0 = .ok (.aload_n 0, 1) := by decide +kernel
theorem dX12_worth_1 : decode cX12_worth 1 = .ok (.iconst 0, 1) := by decide +kernel
theorem dX12_worth_2 : decode cX12_worth 2 = .ok (.putfield 82, 3) := by decide +kernel
theorem dX12_worth_5 : decode cX12_worth 5 = .ok (.aload_n 0, 1) := by decide +kernel
theorem dX12_worth_6 : decode cX12_worth 6 = .ok (.iconst 0, 1) := by decide +kernel
theorem dX12_worth_7 : decode cX12_worth 7 = .ok (.putfield 85, 3) := by decide +kernel
theorem dX12_worth_10 : decode cX12_worth 10 = .ok (.aload_n 0, 1) := by decide +kernel
theorem dX12_worth_11 : decode cX12_worth 11 = .ok (.iload_n 1, 1) := by decide +kernel
theorem dX12_worth_12 : decode cX12_worth 12 = .ok (.invokevirtual 295, 3) := by decide +kernel
theorem dX12_worth_15 : decode cX12_worth 15 = .ok (.ifCond .ne 9, 3) := by decide +kernel
theorem dX12_worth_18 : decode cX12_worth 18 = .ok (.aload_n 0, 1) := by decide +kernel
theorem dX12_worth_19 : decode cX12_worth 19 = .ok (.iconst 2, 1) := by decide +kernel
theorem dX12_worth_20 : decode cX12_worth 20 = .ok (.invokevirtual 97, 3) := by decide +kernel
theorem dX12_worth_23 : decode cX12_worth 23 = .ok (.ireturn, 1) := by decide +kernel
theorem dX12_write_0 : decode cX12_write 0 = .ok (.aload_n 0, 1) := by decide +kernel
theorem dX12_write_1 : decode cX12_write 1 = .ok (.iconst 0, 1) := by decide +kernel
theorem dX12_write_2 : decode cX12_write 2 = .ok (.putfield 82, 3) := by decide +kernel
theorem dX12_write_5 : decode cX12_write 5 = .ok (.aload_n 0, 1) := by decide +kernel
theorem dX12_write_6 : decode cX12_write 6 = .ok (.aload_n 0, 1) := by decide +kernel
theorem dX12_write_7 : decode cX12_write 7 = .ok (.iload_n 1, 1) := by decide +kernel
theorem dX12_write_8 : decode cX12_write 8 = .ok (.iload_n 2, 1) := by decide +kernel
theorem dX12_write_9 : decode cX12_write 9 = .ok (.invokevirtual 105, 3) := by decide +kernel
theorem dX12_write_12 : decode cX12_write 12 = .ok (.putfield 85, 3) := by decide +kernel
theorem dX12_write_15 : decode cX12_write 15 = .ok (.aload_n 0, 1) := by decide +kernel
theorem dX12_write_16 : decode cX12_write 16 = .ok (.getfield 85, 3) := by decide +kernel
theorem dX12_write_19 : decode cX12_write 19 = .ok (.ifCond .le 5, 3) := by decide +kernel
theorem dX12_write_22 : decode cX12_write 22 = .ok (.iconst 0, 1) := by decide +kernel
theorem dX12_write_23 : decode cX12_write 23 = .ok (.ireturn, 1) := by decide +kernel
theorem lk_RX12_101 : zLV RX12 101 yX12_trayed cX12_trayed 2 (some .int) 1 := ⟨tw_2107, tw_2109, tw_67, tw_180, tw_2110, ⟨by decide, by decide, by decide +kernel⟩⟩
theorem lk_RX12_105 : zLV RX12 105 yX12_placed cX12_placed 4 (some .int) 2 := ⟨tw_2103, tw_2105, tw_66, tw_180, tw_2106, ⟨by decide, by decide, by decide +kernel⟩⟩
theorem lk_RX12_117 : zLS RX12 117 yX12_isIn cX12_isIn 6 (some .boolean) 3 := ⟨tw_2212, tw_2213, tw_180, tw_2214, ⟨by decide, by decide, by decide +kernel⟩⟩
theorem lk_RX12_184 : zLV RX12 184 yX12_next2 cX12_next2 2 none 0 := ⟨tw_2143, tw_2145, tw_70, tw_180, tw_2146, ⟨by decide, by decide, by decide +kernel⟩⟩
theorem lk_RX12_193 : zLV RX12 193 yX12_layByte cX12_layByte 3 none 1 := ⟨tw_2127, tw_2129, tw_68, tw_180, tw_2130, ⟨by decide, by decide, by decide +kernel⟩⟩
theorem lk_RX12_233 : zLV RX12 233 yX12_begins cX12_begins 3 (some .boolean) 2 := ⟨tw_2139, tw_2141, tw_69, tw_180, tw_2142, ⟨by decide, by decide, by decide +kernel⟩⟩
theorem lk_RX12_261 : zLV RX12 261 yX12_isWell cX12_isWell 1 (some .boolean) 0 := ⟨tw_2251, tw_2253, tw_93, tw_180, tw_2254, ⟨by decide, by decide, by decide +kernel⟩⟩
theorem lk_RX12_264 : zLV RX12 264 yX12_isFeature cX12_isFeature 2 (some .boolean) 1 := ⟨tw_2268, tw_2270, tw_95, tw_180, tw_2271, ⟨by decide, by decide, by decide +kernel⟩⟩
theorem lk_RX12_269 : zLV RX12 269 yX12_refuse cX12_refuse 2 (some .int) 1 := ⟨tw_2260, tw_2262, tw_94, tw_180, tw_2263, ⟨by decide, by decide, by decide +kernel⟩⟩
theorem lk_RX12_272 : zLV RX12 272 yX12_isStep cX12_isStep 3 (some .boolean) 2 := ⟨tw_2276, tw_2278, tw_96, tw_180, tw_2279, ⟨by decide, by decide, by decide +kernel⟩⟩
theorem lk_RX12_275 : zLV RX12 275 yX12_isKey cX12_isKey 3 (some .boolean) 1 := ⟨tw_2284, tw_2286, tw_97, tw_180, tw_2287, ⟨by decide, by decide, by decide +kernel⟩⟩
theorem lk_RX12_289 : zLV RX12 289 yX12_isRing cX12_isRing 2 (some .boolean) 1 := ⟨tw_2305, tw_2307, tw_100, tw_180, tw_2308, ⟨by decide, by decide, by decide +kernel⟩⟩
theorem lk_RX12_295 : zLV RX12 295 yX12_isDoor cX12_isDoor 2 (some .boolean) 1 := ⟨tw_2317, tw_2319, tw_102, tw_180, tw_2320, ⟨by decide, by decide, by decide +kernel⟩⟩
theorem lk_RX12_298 : zLV RX12 298 yX12_isTray cX12_isTray 2 (some .boolean) 1 := ⟨tw_2329, tw_2331, tw_103, tw_180, tw_2332, ⟨by decide, by decide, by decide +kernel⟩⟩
theorem lk_RX12_323 : zLV RX12 323 yX12_isHeld cX12_isHeld 1 (some .boolean) 0 := ⟨tw_2379, tw_2381, tw_110, tw_180, tw_2382, ⟨by decide, by decide, by decide +kernel⟩⟩
theorem lk_RX12_597 : zLV RX12 597 yX12_copy cX12_copy 4 none 2 := ⟨tw_2733, tw_2735, tw_166, tw_180, tw_2736, ⟨by decide, by decide, by decide +kernel⟩⟩
theorem lk_RX12_78 : zLV RX12 78 yX12_empty cX12_empty 3 none 1 := ⟨tw_1881, tw_1883, tw_64, tw_180, tw_1884, ⟨by decide, by decide, by decide +kernel⟩⟩
theorem lk_RX12_97 : zLV RX12 97 yX12_no cX12_no 2 (some .boolean) 1 := ⟨tw_2095, tw_2097, tw_65, tw_180, tw_2098, ⟨by decide, by decide, by decide +kernel⟩⟩
