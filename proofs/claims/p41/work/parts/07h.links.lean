theorem lk_RX12_101 : zLV RX12 101 yX12_trayed cX12_trayed 2 (some .int) 1 := ⟨tw_2107, tw_2109, tw_67, tw_180, tw_2110, ⟨by decide, by decide, by decide +kernel⟩⟩
theorem lk_RX12_105 : zLV RX12 105 yX12_placed cX12_placed 4 (some .int) 2 := ⟨tw_2103, tw_2105, tw_66, tw_180, tw_2106, ⟨by decide, by decide, by decide +kernel⟩⟩
theorem lk_RX12_109 : zLS RX12 109 yX12_cut cX12_cut 3 (some .long) 2 := ⟨tw_2111, tw_2112, tw_180, tw_2113, ⟨by decide, by decide, by decide +kernel⟩⟩
theorem lk_RX12_117 : zLS RX12 117 yX12_isIn cX12_isIn 6 (some .boolean) 3 := ⟨tw_2212, tw_2213, tw_180, tw_2214, ⟨by decide, by decide, by decide +kernel⟩⟩
theorem lk_RX12_130 : zLV RX12 130 yX12_look2 cX12_look2 2 (some .int) 1 := ⟨tw_2147, tw_2149, tw_71, tw_180, tw_2150, ⟨by decide, by decide, by decide +kernel⟩⟩
theorem lk_RX12_136 : zLS RX12 136 yX12_isLetter cX12_isLetter 1 (some .boolean) 1 := ⟨tw_2151, tw_2152, tw_180, tw_2153, ⟨by decide, by decide, by decide +kernel⟩⟩
theorem lk_RX12_149 : zLS RX12 149 yX12_isDigit cX12_isDigit 1 (some .boolean) 1 := ⟨tw_2156, tw_2157, tw_180, tw_2158, ⟨by decide, by decide, by decide +kernel⟩⟩
theorem lk_RX12_155 : zLV RX12 155 yX12_isSignByte cX12_isSignByte 2 (some .boolean) 1 := ⟨tw_2159, tw_2161, tw_72, tw_180, tw_2162, ⟨by decide, by decide, by decide +kernel⟩⟩
theorem lk_RX12_158 : zLS RX12 158 yX12_spelled cX12_spelled 8 (some .long) 6 := ⟨tw_2167, tw_2168, tw_180, tw_2169, ⟨by decide, by decide, by decide +kernel⟩⟩
theorem lk_RX12_164 : zLV RX12 164 yX12_isWord cX12_isWord 3 (some .boolean) 1 := ⟨tw_2171, tw_2173, tw_74, tw_180, tw_2174, ⟨by decide, by decide, by decide +kernel⟩⟩
theorem lk_RX12_170 : zLV RX12 170 yX12_houseWord cX12_houseWord 1 (some .int) 0 := ⟨tw_2163, tw_2165, tw_73, tw_180, tw_2166, ⟨by decide, by decide, by decide +kernel⟩⟩
theorem lk_RX12_180 : zLV RX12 180 yX12_fail cX12_fail 3 none 2 := ⟨tw_2180, tw_2182, tw_76, tw_180, tw_2183, ⟨by decide, by decide, by decide +kernel⟩⟩
theorem lk_RX12_184 : zLV RX12 184 yX12_next2 cX12_next2 2 none 0 := ⟨tw_2143, tw_2145, tw_70, tw_180, tw_2146, ⟨by decide, by decide, by decide +kernel⟩⟩
theorem lk_RX12_187 : zLV RX12 187 yX12_wrong cX12_wrong 1 none 0 := ⟨tw_2192, tw_2194, tw_79, tw_180, tw_2195, ⟨by decide, by decide, by decide +kernel⟩⟩
theorem lk_RX12_193 : zLV RX12 193 yX12_layByte cX12_layByte 3 none 1 := ⟨tw_2127, tw_2129, tw_68, tw_180, tw_2130, ⟨by decide, by decide, by decide +kernel⟩⟩
theorem lk_RX12_196 : zLV RX12 196 yX12_named cX12_named 5 (some .int) 3 := ⟨tw_2200, tw_2202, tw_81, tw_180, tw_2203, ⟨by decide, by decide, by decide +kernel⟩⟩
theorem lk_RX12_200 : zLV RX12 200 yX12_isHouseName cX12_isHouseName 1 (some .boolean) 0 := ⟨tw_2188, tw_2190, tw_78, tw_180, tw_2191, ⟨by decide, by decide, by decide +kernel⟩⟩
theorem lk_RX12_204 : zLV RX12 204 yX12_isTaken cX12_isTaken 1 (some .boolean) 0 := ⟨tw_2196, tw_2198, tw_80, tw_180, tw_2199, ⟨by decide, by decide, by decide +kernel⟩⟩
theorem lk_RX12_207 : zLV RX12 207 yX12_readNew cX12_readNew 5 (some .int) 3 := ⟨tw_2184, tw_2186, tw_77, tw_180, tw_2187, ⟨by decide, by decide, by decide +kernel⟩⟩
theorem lk_RX12_210 : zLV RX12 210 yX12_must cX12_must 2 none 1 := ⟨tw_2204, tw_2206, tw_82, tw_180, tw_2207, ⟨by decide, by decide, by decide +kernel⟩⟩
theorem lk_RX12_214 : zLV RX12 214 yX12_count cX12_count 4 (some .int) 2 := ⟨tw_2208, tw_2210, tw_83, tw_180, tw_2211, ⟨by decide, by decide, by decide +kernel⟩⟩
theorem lk_RX12_217 : zLV RX12 217 yX12_readOld cX12_readOld 4 (some .int) 2 := ⟨tw_2219, tw_2221, tw_85, tw_180, tw_2222, ⟨by decide, by decide, by decide +kernel⟩⟩
theorem lk_RX12_220 : zLV RX12 220 yX12_isSign cX12_isSign 2 (some .boolean) 1 := ⟨tw_2223, tw_2225, tw_86, tw_180, tw_2226, ⟨by decide, by decide, by decide +kernel⟩⟩
theorem lk_RX12_233 : zLV RX12 233 yX12_begins cX12_begins 3 (some .boolean) 2 := ⟨tw_2139, tw_2141, tw_69, tw_180, tw_2142, ⟨by decide, by decide, by decide +kernel⟩⟩
theorem lk_RX12_237 : zLV RX12 237 yX12_readFeature cX12_readFeature 5 none 0 := ⟨tw_2176, tw_2178, tw_75, tw_180, tw_2179, ⟨by decide, by decide, by decide +kernel⟩⟩
theorem lk_RX12_240 : zLV RX12 240 yX12_readFeels cX12_readFeels 6 none 0 := ⟨tw_2215, tw_2217, tw_84, tw_180, tw_2218, ⟨by decide, by decide, by decide +kernel⟩⟩
theorem lk_RX12_243 : zLV RX12 243 yX12_readKey cX12_readKey 3 none 0 := ⟨tw_2227, tw_2229, tw_87, tw_180, tw_2230, ⟨by decide, by decide, by decide +kernel⟩⟩
theorem lk_RX12_246 : zLV RX12 246 yX12_readRing cX12_readRing 4 none 0 := ⟨tw_2231, tw_2233, tw_88, tw_180, tw_2234, ⟨by decide, by decide, by decide +kernel⟩⟩
theorem lk_RX12_249 : zLV RX12 249 yX12_readDoor cX12_readDoor 6 none 0 := ⟨tw_2235, tw_2237, tw_89, tw_180, tw_2238, ⟨by decide, by decide, by decide +kernel⟩⟩
theorem lk_RX12_252 : zLV RX12 252 yX12_readSeconds cX12_readSeconds 2 none 0 := ⟨tw_2239, tw_2241, tw_90, tw_180, tw_2242, ⟨by decide, by decide, by decide +kernel⟩⟩
theorem lk_RX12_255 : zLV RX12 255 yX12_readTurned cX12_readTurned 1 none 0 := ⟨tw_2243, tw_2245, tw_91, tw_180, tw_2246, ⟨by decide, by decide, by decide +kernel⟩⟩
theorem lk_RX12_258 : zLV RX12 258 yX12_readRound cX12_readRound 3 none 0 := ⟨tw_2247, tw_2249, tw_92, tw_180, tw_2250, ⟨by decide, by decide, by decide +kernel⟩⟩
theorem lk_RX12_261 : zLV RX12 261 yX12_isWell cX12_isWell 1 (some .boolean) 0 := ⟨tw_2251, tw_2253, tw_93, tw_180, tw_2254, ⟨by decide, by decide, by decide +kernel⟩⟩
theorem lk_RX12_264 : zLV RX12 264 yX12_isFeature cX12_isFeature 2 (some .boolean) 1 := ⟨tw_2268, tw_2270, tw_95, tw_180, tw_2271, ⟨by decide, by decide, by decide +kernel⟩⟩
theorem lk_RX12_269 : zLV RX12 269 yX12_refuse cX12_refuse 2 (some .int) 1 := ⟨tw_2260, tw_2262, tw_94, tw_180, tw_2263, ⟨by decide, by decide, by decide +kernel⟩⟩
theorem lk_RX12_272 : zLV RX12 272 yX12_isStep cX12_isStep 3 (some .boolean) 2 := ⟨tw_2276, tw_2278, tw_96, tw_180, tw_2279, ⟨by decide, by decide, by decide +kernel⟩⟩
theorem lk_RX12_275 : zLV RX12 275 yX12_isKey cX12_isKey 3 (some .boolean) 1 := ⟨tw_2284, tw_2286, tw_97, tw_180, tw_2287, ⟨by decide, by decide, by decide +kernel⟩⟩
theorem lk_RX12_278 : zLV RX12 278 yX12_ringOf cX12_ringOf 4 (some .int) 1 := ⟨tw_2293, tw_2295, tw_98, tw_180, tw_2296, ⟨by decide, by decide, by decide +kernel⟩⟩
theorem lk_RX12_283 : zLV RX12 283 yX12_placeOf cX12_placeOf 4 (some .int) 1 := ⟨tw_2297, tw_2299, tw_99, tw_180, tw_2300, ⟨by decide, by decide, by decide +kernel⟩⟩
theorem lk_RX12_289 : zLV RX12 289 yX12_isRing cX12_isRing 2 (some .boolean) 1 := ⟨tw_2305, tw_2307, tw_100, tw_180, tw_2308, ⟨by decide, by decide, by decide +kernel⟩⟩
theorem lk_RX12_292 : zLV RX12 292 yX12_gather cX12_gather 4 none 1 := ⟨tw_2309, tw_2311, tw_101, tw_180, tw_2312, ⟨by decide, by decide, by decide +kernel⟩⟩
theorem lk_RX12_295 : zLV RX12 295 yX12_isDoor cX12_isDoor 2 (some .boolean) 1 := ⟨tw_2317, tw_2319, tw_102, tw_180, tw_2320, ⟨by decide, by decide, by decide +kernel⟩⟩
theorem lk_RX12_298 : zLV RX12 298 yX12_isTray cX12_isTray 2 (some .boolean) 1 := ⟨tw_2329, tw_2331, tw_103, tw_180, tw_2332, ⟨by decide, by decide, by decide +kernel⟩⟩
theorem lk_RX12_301 : zLV RX12 301 yX12_numberOf cX12_numberOf 3 (some .long) 2 := ⟨tw_2334, tw_2336, tw_104, tw_180, tw_2337, ⟨by decide, by decide, by decide +kernel⟩⟩
theorem lk_RX12_305 : zLV RX12 305 yX12_letGo cX12_letGo 2 none 1 := ⟨tw_2338, tw_2340, tw_105, tw_180, tw_2341, ⟨by decide, by decide, by decide +kernel⟩⟩
theorem lk_RX12_308 : zLV RX12 308 yX12_insert cX12_insert 5 none 3 := ⟨tw_2350, tw_2352, tw_106, tw_180, tw_2353, ⟨by decide, by decide, by decide +kernel⟩⟩
theorem lk_RX12_312 : zLV RX12 312 yX12_take2 cX12_take2 4 none 1 := ⟨tw_2358, tw_2360, tw_107, tw_180, tw_2361, ⟨by decide, by decide, by decide +kernel⟩⟩
theorem lk_RX12_317 : zLV RX12 317 yX12_shareOut cX12_shareOut 7 (some .boolean) 0 := ⟨tw_2370, tw_2372, tw_109, tw_180, tw_2373, ⟨by decide, by decide, by decide +kernel⟩⟩
theorem lk_RX12_320 : zLV RX12 320 yX12_beginThought cX12_beginThought 2 none 0 := ⟨tw_2366, tw_2368, tw_108, tw_180, tw_2369, ⟨by decide, by decide, by decide +kernel⟩⟩
theorem lk_RX12_323 : zLV RX12 323 yX12_isHeld cX12_isHeld 1 (some .boolean) 0 := ⟨tw_2379, tw_2381, tw_110, tw_180, tw_2382, ⟨by decide, by decide, by decide +kernel⟩⟩
theorem lk_RX12_326 : zLV RX12 326 yX12_stepAs cX12_stepAs 5 (some .int) 3 := ⟨tw_2395, tw_2397, tw_113, tw_180, tw_2398, ⟨by decide, by decide, by decide +kernel⟩⟩
theorem lk_RX12_329 : zLV RX12 329 yX12_felt cX12_felt 5 (some .int) 4 := ⟨tw_2391, tw_2393, tw_112, tw_180, tw_2394, ⟨by decide, by decide, by decide +kernel⟩⟩
theorem lk_RX12_333 : zLV RX12 333 yX12_feelAs cX12_feelAs 4 (some .boolean) 2 := ⟨tw_2387, tw_2389, tw_111, tw_180, tw_2390, ⟨by decide, by decide, by decide +kernel⟩⟩
theorem lk_RX12_336 : zLV RX12 336 yX12_onward cX12_onward 3 (some .int) 1 := ⟨tw_2407, tw_2409, tw_115, tw_180, tw_2410, ⟨by decide, by decide, by decide +kernel⟩⟩
theorem lk_RX12_339 : zLV RX12 339 yX12_goAs cX12_goAs 2 none 0 := ⟨tw_2403, tw_2405, tw_114, tw_180, tw_2406, ⟨by decide, by decide, by decide +kernel⟩⟩
theorem lk_RX12_342 : zLV RX12 342 yX12_turnAs cX12_turnAs 3 none 0 := ⟨tw_2415, tw_2417, tw_116, tw_180, tw_2418, ⟨by decide, by decide, by decide +kernel⟩⟩
theorem lk_RX12_345 : zLV RX12 345 yX12_canOpen cX12_canOpen 3 (some .boolean) 2 := ⟨tw_2427, tw_2429, tw_118, tw_180, tw_2430, ⟨by decide, by decide, by decide +kernel⟩⟩
theorem lk_RX12_348 : zLV RX12 348 yX12_tryAs cX12_tryAs 4 (some .boolean) 2 := ⟨tw_2423, tw_2425, tw_117, tw_180, tw_2426, ⟨by decide, by decide, by decide +kernel⟩⟩
theorem lk_RX12_352 : zLV RX12 352 yX12_fraction cX12_fraction 11 (some .boolean) 2 := ⟨tw_2435, tw_2437, tw_119, tw_180, tw_2438, ⟨by decide, by decide, by decide +kernel⟩⟩
theorem lk_RX12_356 : zLV RX12 356 yX12_opensOf cX12_opensOf 5 (some .long) 1 := ⟨tw_2446, tw_2448, tw_120, tw_180, tw_2449, ⟨by decide, by decide, by decide +kernel⟩⟩
theorem lk_RX12_362 : zLV RX12 362 yX12_triedWorth cX12_triedWorth 8 (some .long) 3 := ⟨tw_2463, tw_2465, tw_123, tw_180, tw_2466, ⟨by decide, by decide, by decide +kernel⟩⟩
theorem lk_RX12_366 : zLV RX12 366 yX12_goneWorth cX12_goneWorth 5 (some .long) 3 := ⟨tw_2471, tw_2473, tw_124, tw_180, tw_2474, ⟨by decide, by decide, by decide +kernel⟩⟩
theorem lk_RX12_369 : zLV RX12 369 yX12_feltWorth cX12_feltWorth 9 (some .long) 4 := ⟨tw_2475, tw_2477, tw_125, tw_180, tw_2478, ⟨by decide, by decide, by decide +kernel⟩⟩
theorem lk_RX12_376 : zLS RX12 376 yX12_power cX12_power 4 (some .long) 1 := ⟨tw_2467, tw_2468, tw_180, tw_2469, ⟨by decide, by decide, by decide +kernel⟩⟩
theorem lk_RX12_379 : zLV RX12 379 yX12_worthOf cX12_worthOf 10 (some .long) 3 := ⟨tw_2459, tw_2461, tw_122, tw_180, tw_2462, ⟨by decide, by decide, by decide +kernel⟩⟩
theorem lk_RX12_384 : zLV RX12 384 yX12_findWorth cX12_findWorth 4 (some .long) 2 := ⟨tw_2455, tw_2457, tw_121, tw_180, tw_2458, ⟨by decide, by decide, by decide +kernel⟩⟩
theorem lk_RX12_387 : zLV RX12 387 yX12_search cX12_search 7 (some .int) 3 := ⟨tw_2487, tw_2489, tw_126, tw_180, tw_2490, ⟨by decide, by decide, by decide +kernel⟩⟩
theorem lk_RX12_396 : zLV RX12 396 yX12_meanFrom cX12_meanFrom 5 none 2 := ⟨tw_2495, tw_2497, tw_127, tw_180, tw_2498, ⟨by decide, by decide, by decide +kernel⟩⟩
theorem lk_RX12_399 : zLV RX12 399 yX12_meanAnywhere cX12_meanAnywhere 6 none 0 := ⟨tw_2503, tw_2505, tw_128, tw_180, tw_2506, ⟨by decide, by decide, by decide +kernel⟩⟩
theorem lk_RX12_408 : zLV RX12 408 yX12_walk cX12_walk 8 (some .int) 0 := ⟨tw_2523, tw_2525, tw_132, tw_180, tw_2526, ⟨by decide, by decide, by decide +kernel⟩⟩
theorem lk_RX12_420 : zLV RX12 420 yX12_judge cX12_judge 2 none 0 := ⟨tw_2519, tw_2521, tw_131, tw_180, tw_2522, ⟨by decide, by decide, by decide +kernel⟩⟩
theorem lk_RX12_423 : zLV RX12 423 yX12_isOrdered cX12_isOrdered 3 (some .boolean) 1 := ⟨tw_2528, tw_2530, tw_133, tw_180, tw_2531, ⟨by decide, by decide, by decide +kernel⟩⟩
theorem lk_RX12_426 : zLV RX12 426 yX12_isUsed cX12_isUsed 4 (some .boolean) 2 := ⟨tw_2532, tw_2534, tw_134, tw_180, tw_2535, ⟨by decide, by decide, by decide +kernel⟩⟩
theorem lk_RX12_429 : zLV RX12 429 yX12_orderFrom cX12_orderFrom 3 none 1 := ⟨tw_2515, tw_2517, tw_130, tw_180, tw_2518, ⟨by decide, by decide, by decide +kernel⟩⟩
theorem lk_RX12_435 : zLV RX12 435 yX12_findOrder cX12_findOrder 3 none 1 := ⟨tw_2511, tw_2513, tw_129, tw_180, tw_2514, ⟨by decide, by decide, by decide +kernel⟩⟩
theorem lk_RX12_438 : zLV RX12 438 yX12_hasOpener cX12_hasOpener 3 (some .boolean) 1 := ⟨tw_2548, tw_2550, tw_137, tw_180, tw_2551, ⟨by decide, by decide, by decide +kernel⟩⟩
theorem lk_RX12_444 : zLV RX12 444 yX12_judgeRow cX12_judgeRow 7 none 2 := ⟨tw_2544, tw_2546, tw_136, tw_180, tw_2547, ⟨by decide, by decide, by decide +kernel⟩⟩
theorem lk_RX12_447 : zLV RX12 447 yX12_rowFrom cX12_rowFrom 4 none 2 := ⟨tw_2540, tw_2542, tw_135, tw_180, tw_2543, ⟨by decide, by decide, by decide +kernel⟩⟩
theorem lk_RX12_450 : zLS RX12 450 yJ9_min_7cf53 cJ9_min_7cf53 2 (some .int) 2 := ⟨tw_2527, tw_1363, tw_187, tw_1364, ⟨by decide, by decide, by decide +kernel⟩⟩
theorem lk_RX12_453 : zLV RX12 453 yX12_differ cX12_differ 7 (some .boolean) 5 := ⟨tw_2572, tw_2574, tw_139, tw_180, tw_2575, ⟨by decide, by decide, by decide +kernel⟩⟩
theorem lk_RX12_457 : zLV RX12 457 yX12_all cX12_all 1 (some .int) 0 := ⟨tw_2568, tw_2570, tw_138, tw_180, tw_2571, ⟨by decide, by decide, by decide +kernel⟩⟩
theorem lk_RX12_460 : zLS RX12 460 yX12_bits cX12_bits 1 (some .int) 1 := ⟨tw_2580, tw_2581, tw_180, tw_2582, ⟨by decide, by decide, by decide +kernel⟩⟩
theorem lk_RX12_463 : zLV RX12 463 yX12_tellsAll cX12_tellsAll 6 (some .boolean) 2 := ⟨tw_2583, tw_2585, tw_140, tw_180, tw_2586, ⟨by decide, by decide, by decide +kernel⟩⟩
theorem lk_RX12_468 : zLV RX12 468 yX12_areSame cX12_areSame 7 (some .boolean) 4 := ⟨tw_2600, tw_2602, tw_142, tw_180, tw_2603, ⟨by decide, by decide, by decide +kernel⟩⟩
theorem lk_RX12_472 : zLV RX12 472 yX12_isKnown cX12_isKnown 5 (some .boolean) 2 := ⟨tw_2596, tw_2598, tw_141, tw_180, tw_2599, ⟨by decide, by decide, by decide +kernel⟩⟩
theorem lk_RX12_476 : zLV RX12 476 yX12_besides cX12_besides 2 (some .int) 1 := ⟨tw_2608, tw_2610, tw_143, tw_180, tw_2611, ⟨by decide, by decide, by decide +kernel⟩⟩
theorem lk_RX12_479 : zLV RX12 479 yX12_isOnly cX12_isOnly 5 (some .boolean) 2 := ⟨tw_2613, tw_2615, tw_144, tw_180, tw_2616, ⟨by decide, by decide, by decide +kernel⟩⟩
theorem lk_RX12_482 : zLV RX12 482 yX12_isTurn cX12_isTurn 1 (some .boolean) 0 := ⟨tw_2645, tw_2647, tw_149, tw_180, tw_2648, ⟨by decide, by decide, by decide +kernel⟩⟩
theorem lk_RX12_485 : zLV RX12 485 yX12_isStop cX12_isStop 1 (some .boolean) 0 := ⟨tw_2649, tw_2651, tw_150, tw_180, tw_2652, ⟨by decide, by decide, by decide +kernel⟩⟩
theorem lk_RX12_488 : zLV RX12 488 yX12_isFelt cX12_isFelt 1 (some .boolean) 0 := ⟨tw_2657, tw_2659, tw_152, tw_180, tw_2660, ⟨by decide, by decide, by decide +kernel⟩⟩
theorem lk_RX12_491 : zLV RX12 491 yX12_readFeatureName cX12_readFeatureName 2 (some .int) 0 := ⟨tw_2661, tw_2663, tw_153, tw_180, tw_2664, ⟨by decide, by decide, by decide +kernel⟩⟩
theorem lk_RX12_494 : zLV RX12 494 yX12_isSure cX12_isSure 1 (some .boolean) 0 := ⟨tw_2665, tw_2667, tw_154, tw_180, tw_2668, ⟨by decide, by decide, by decide +kernel⟩⟩
theorem lk_RX12_497 : zLV RX12 497 yX12_isTried cX12_isTried 1 (some .boolean) 0 := ⟨tw_2669, tw_2671, tw_155, tw_180, tw_2672, ⟨by decide, by decide, by decide +kernel⟩⟩
theorem lk_RX12_500 : zLV RX12 500 yX12_isWhen cX12_isWhen 1 (some .boolean) 0 := ⟨tw_2633, tw_2635, tw_146, tw_180, tw_2636, ⟨by decide, by decide, by decide +kernel⟩⟩
theorem lk_RX12_503 : zLV RX12 503 yX12_isLoop cX12_isLoop 1 (some .boolean) 0 := ⟨tw_2637, tw_2639, tw_147, tw_180, tw_2640, ⟨by decide, by decide, by decide +kernel⟩⟩
theorem lk_RX12_506 : zLV RX12 506 yX12_plainStep cX12_plainStep 2 (some .int) 0 := ⟨tw_2641, tw_2643, tw_148, tw_180, tw_2644, ⟨by decide, by decide, by decide +kernel⟩⟩
theorem lk_RX12_512 : zLV RX12 512 yX12_readWhen cX12_readWhen 3 none 1 := ⟨tw_2653, tw_2655, tw_151, tw_180, tw_2656, ⟨by decide, by decide, by decide +kernel⟩⟩
theorem lk_RX12_515 : zLV RX12 515 yX12_isEnd cX12_isEnd 1 (some .boolean) 0 := ⟨tw_2673, tw_2675, tw_156, tw_180, tw_2676, ⟨by decide, by decide, by decide +kernel⟩⟩
theorem lk_RX12_518 : zLV RX12 518 yX12_readStep cX12_readStep 5 none 1 := ⟨tw_2629, tw_2631, tw_145, tw_180, tw_2632, ⟨by decide, by decide, by decide +kernel⟩⟩
theorem lk_RX12_528 : zLV RX12 528 yX12_draw cX12_draw 2 (some .int) 1 := ⟨tw_2690, tw_2692, tw_159, tw_180, tw_2693, ⟨by decide, by decide, by decide +kernel⟩⟩
theorem lk_RX12_537 : zLV RX12 537 yX12_forgetHere cX12_forgetHere 2 none 0 := ⟨tw_2695, tw_2697, tw_160, tw_180, tw_2698, ⟨by decide, by decide, by decide +kernel⟩⟩
theorem lk_RX12_564 : zLV RX12 564 yX12_doFeel cX12_doFeel 5 none 1 := ⟨tw_2707, tw_2709, tw_163, tw_180, tw_2710, ⟨by decide, by decide, by decide +kernel⟩⟩
theorem lk_RX12_567 : zLV RX12 567 yX12_doTry cX12_doTry 1 none 0 := ⟨tw_2711, tw_2713, tw_164, tw_180, tw_2714, ⟨by decide, by decide, by decide +kernel⟩⟩
theorem lk_RX12_570 : zLV RX12 570 yX12_pickUp cX12_pickUp 1 none 0 := ⟨tw_2686, tw_2688, tw_158, tw_180, tw_2689, ⟨by decide, by decide, by decide +kernel⟩⟩
theorem lk_RX12_573 : zLV RX12 573 yX12_doAll cX12_doAll 4 none 2 := ⟨tw_2699, tw_2701, tw_161, tw_180, tw_2702, ⟨by decide, by decide, by decide +kernel⟩⟩
theorem lk_RX12_576 : zLV RX12 576 yX12_isSo cX12_isSo 4 (some .boolean) 1 := ⟨tw_2715, tw_2717, tw_165, tw_180, tw_2718, ⟨by decide, by decide, by decide +kernel⟩⟩
theorem lk_RX12_579 : zLV RX12 579 yX12_doOne cX12_doOne 4 none 1 := ⟨tw_2703, tw_2705, tw_162, tw_180, tw_2706, ⟨by decide, by decide, by decide +kernel⟩⟩
theorem lk_RX12_584 : zLV RX12 584 yX12_playOnce cX12_playOnce 5 none 3 := ⟨tw_2682, tw_2684, tw_157, tw_180, tw_2685, ⟨by decide, by decide, by decide +kernel⟩⟩
theorem lk_RX12_597 : zLV RX12 597 yX12_copy cX12_copy 4 none 2 := ⟨tw_2733, tw_2735, tw_166, tw_180, tw_2736, ⟨by decide, by decide, by decide +kernel⟩⟩
theorem lk_RX12_78 : zLV RX12 78 yX12_empty cX12_empty 3 none 1 := ⟨tw_1881, tw_1883, tw_64, tw_180, tw_1884, ⟨by decide, by decide, by decide +kernel⟩⟩
theorem lk_RX12_91 : zLS RX12 91 yJ9_abs_067f4 cJ9_abs_067f4 2 (some .long) 1 := ⟨tw_2439, tw_2440, tw_187, tw_2441, ⟨by decide, by decide, by decide +kernel⟩⟩
theorem lk_RX12_97 : zLV RX12 97 yX12_no cX12_no 2 (some .boolean) 1 := ⟨tw_2095, tw_2097, tw_65, tw_180, tw_2098, ⟨by decide, by decide, by decide +kernel⟩⟩
set_option maxHeartbeats 4000000 in
set_option maxRecDepth 100000 in
theorem r_Ma_abs (l : Launch) (G : va_G) (cA : zCA) (l1 : Int64) : zCl l yJ9_abs_067f4 cJ9_abs_067f4 2 (some .long) ({ frames := 0, cells := 0, slots := 0, locals := 0 }) G cA [.long l1] [] (S := Unit) (fun (r : Int64) (u : Unit) => True) (fun (u : Unit) => []) 0 0 := by
  refine z_startFl (own := RJ9) (by decide +kernel) (Nat.le_of_ble_eq_true rfl) rfl ?_
  intro p e s m args below meth c A ls Q hx hb hml hts hown hK hE hT hP hD hS hA hl hret
  have hl : lv_has ls 2 [(0, .long l1)] := hl
  refine lv_lload_n hx hb dJ9_abs_067f4_0 rfl (lv_at hl 0 rfl) ?_
  refine lv_lconst (v := 0) hx hb dJ9_abs_067f4_1 (by decide) ?_
  refine W.lcmp hx hb dJ9_abs_067f4_2 ?_
  refine lv_if_ge (tgt := 11) hx hb dJ9_abs_067f4_3 (by decide) (fun c_1 => ?_) (fun c_1 => ?_)
  · have b_2 := z_b1 c_1 (K := 0) (by decide +kernel)
    refine lv_lload_n hx hb dJ9_abs_067f4_11 rfl (lv_at hl 0 rfl) ?_
    exact hret _ _ _ _ _ _ () [] hP hD hS rfl (by decide) dJ9_abs_067f4_12 trivial
  · have b_3 := z_b2 c_1 (K := 0) (by decide +kernel)
    refine lv_lload_n hx hb dJ9_abs_067f4_6 rfl (lv_at hl 0 rfl) ?_
    refine lv_lneg hx hb dJ9_abs_067f4_7 ?_
    refine lv_topl (fun x_4 _ => ?_)
    refine lv_goto (tgt := 12) hx hb dJ9_abs_067f4_8 (by decide) ?_
    exact hret _ _ _ _ _ _ () [] hP hD hS rfl (by decide) dJ9_abs_067f4_12 trivial
set_option maxHeartbeats 40000000 in
set_option maxRecDepth 100000 in
theorem r_Ma_min (l : Launch) (G : va_G) (cA : zCA) (i1 : Int32) (i2 : Int32) : zCi l yJ9_min_7cf53 cJ9_min_7cf53 2 (some .int) ({ frames := 0, cells := 0, slots := 0, locals := 0 }) G cA [.int i1, .int i2] [] (S := Unit) (fun (r : Int32) (u : Unit) => (r = (F_r_Ma_min i1 i2)) ∧ (True)) (fun (u : Unit) => []) 0 0 := by
  refine z_startFi (own := RJ9) (by decide +kernel) (Nat.le_of_ble_eq_true rfl) rfl ?_
  intro p e s m args below meth c A ls Q hx hb hml hts hown hK hE hT hP hD hS hA hl hret
  have hl : lv_has ls 2 [(0, .int i1), (1, .int i2)] := hl
  refine lv_iload_n hx hb dJ9_min_7cf53_0 rfl (lv_at hl 0 rfl) ?_
  refine lv_iload_n hx hb dJ9_min_7cf53_1 rfl (lv_at hl 1 rfl) ?_
  refine lv_icmp_gt (tgt := 9) hx hb dJ9_min_7cf53_2 (by decide) (fun c_1 => ?_) (fun c_1 => ?_)
  · have b_2 := z_t7 c_1
    refine lv_iload_n hx hb dJ9_min_7cf53_9 rfl (lv_at hl 1 rfl) ?_
    have hX_3 : F_r_Ma_min i1 i2 = (i2 : Int32) := by
      refine (F_r_Ma_min_s ..).trans ?_
      refine (if_pos c_1).trans ?_
      exact rfl
    exact hret _ _ _ _ _ _ () [] hP hD hS rfl (by decide) dJ9_min_7cf53_10 ⟨(congrArg (fun z9 => z9) hX_3).symm, trivial⟩
  · have b_4 := z_s8 c_1
    refine lv_iload_n hx hb dJ9_min_7cf53_5 rfl (lv_at hl 0 rfl) ?_
    refine lv_goto (tgt := 10) hx hb dJ9_min_7cf53_6 (by decide) ?_
    have hX_5 : F_r_Ma_min i1 i2 = (i1 : Int32) := by
      refine (F_r_Ma_min_s ..).trans ?_
      refine (if_neg c_1).trans ?_
      exact rfl
    exact hret _ _ _ _ _ _ () [] hP hD hS rfl (by decide) dJ9_min_7cf53_10 ⟨(congrArg (fun z9 => z9) hX_5).symm, trivial⟩
