/-! ===== the law: its calls' words ===== -/
theorem goodIn_one {big : List Cond} {w : Cond} (n : Nat) (h : big[n]? = some w) (hg : goodWord w = true) : GoodIn big [w] := by
  intro v hv
  have e := List.mem_singleton.mp hv
  subst e
  exact ⟨List.mem_of_getElem? h, good_of_word hg⟩
set_option maxRecDepth 20000 in
theorem ggL_law_X7_init : GoodIn wsL_law wsX7_init := goodIn_r _ [5, 6, 7, 8, 9, 10, 11, 12, 13, 14, 15, 16, 17, 18, 19, 20, 21, 22, 23, 24, 25, 26, 27, 28, 29, 30, 31, 32, 33, 34, 35, 36, 37, 38, 39, 40, 41, 42, 43, 44, 45, 46, 47, 48, 49, 50, 51, 52, 53, 54, 55, 56, 57, 58, 59, 60, 61, 62, 63, 64, 65, 66, 67, 68, 69, 70, 71, 72, 73, 74, 75, 76, 77, 78, 79, 80, 81, 82, 83, 84, 85, 86, 87, 88, 89, 544, 545, 546, 547, 548, 549, 550, 551, 552, 538, 539, 540, 541, 542, 543, 553, 554, 555, 556, 557, 558, 559, 560, 561, 562, 563, 564, 565, 566, 567, 568, 569, 570, 571, 572, 573, 574, 575, 576, 577, 578, 579, 580, 581, 582, 583, 584, 585, 586, 587, 588] (by decide +kernel) (by decide +kernel)
set_option maxRecDepth 20000 in
theorem gL_law_X7_init : GoodIn wsL_law (wsX7_init) := ggL_law_X7_init
set_option maxRecDepth 20000 in
theorem ggL_law_L_cell : GoodIn wsL_law wsL_cell := goodIn_r _ [93, 94] (by decide +kernel) (by decide +kernel)
set_option maxRecDepth 20000 in
theorem gL_law_L_cell : GoodIn wsL_law (va_wsS RL 67 yL_cell wsL_cell) := goodIn_app (goodIn_of _ (by decide +kernel)) ggL_law_L_cell
set_option maxRecDepth 20000 in
theorem ggL_law_L_up : GoodIn wsL_law wsL_up := goodIn_r _ [97, 98] (by decide +kernel) (by decide +kernel)
set_option maxRecDepth 20000 in
theorem gL_law_L_up : GoodIn wsL_law (va_wsS RL 15 yL_up wsL_up) := goodIn_app (goodIn_of _ (by decide +kernel)) ggL_law_L_up
set_option maxRecDepth 20000 in
theorem ggL_law_X7_pass : GoodIn wsL_law wsX7_pass := goodIn_r _ [102, 103, 12, 104, 105, 16, 106, 107, 108, 15, 109, 110, 71, 111, 112, 113, 114, 115, 116, 117, 11, 118, 119, 120, 121, 40, 122, 123, 124, 125, 42, 43, 44, 46, 50, 126, 127, 128, 48, 129, 58, 130, 131, 132, 133, 134, 135, 136, 137, 138, 139, 140, 141, 59, 142, 143, 144, 145, 52, 146, 65, 147, 148, 149, 150, 151, 152, 153, 154, 155, 156, 157, 158, 159, 160, 161, 162, 163, 164, 165, 166, 167, 168, 169, 170, 171, 172, 173, 174, 175, 176, 177, 178, 179, 180, 181, 182, 183, 184, 185, 186, 187, 188, 189, 190, 538, 539, 540, 541, 542, 543, 544, 545, 546, 547, 548, 549, 550, 551, 552, 553, 554, 571, 572, 573, 574, 575, 576, 577, 578, 579, 580, 581, 582, 583, 584, 585, 586, 587, 588] (by decide +kernel) (by decide +kernel)
set_option maxRecDepth 20000 in
theorem gL_law_X7_pass : GoodIn wsL_law (wsV RL 33 RX7 yX7_pass wsX7_pass) := goodIn_app (goodIn_of _ (by decide +kernel)) ggL_law_X7_pass
set_option maxRecDepth 20000 in
theorem ggL_law_X7_addHirer : GoodIn wsL_law wsX7_addHirer := goodIn_r _ [194, 12, 195, 105, 16, 106, 107, 108, 15, 109, 110, 71, 111, 112, 113, 114, 115, 116, 117, 11, 118, 119, 120, 121, 40, 122, 123, 124, 125, 42, 43, 44, 46, 50, 126, 127, 128, 48, 129, 58, 130, 131, 132, 133, 134, 135, 136, 137, 138, 139, 140, 141, 59, 142, 143, 144, 145, 52, 146, 65, 147, 538, 539, 540, 541, 542, 543, 544, 545, 546, 547, 548, 549, 550, 551, 552, 553, 554, 571, 572, 573, 574, 575, 576, 577, 578, 579, 580, 581, 582, 583, 584, 585, 586, 587, 588] (by decide +kernel) (by decide +kernel)
set_option maxRecDepth 20000 in
theorem gL_law_X7_addHirer : GoodIn wsL_law (wsV RL 71 RX7 yX7_addHirer wsX7_addHirer) := goodIn_app (goodIn_of _ (by decide +kernel)) ggL_law_X7_addHirer
set_option maxRecDepth 20000 in
theorem hh_L_isStep_wsL_isStep_r1 : GoodIn wsL_law wsL_isStep_r1 := goodIn_r _ [199, 200, 201, 2, 202, 12, 104, 195, 203, 16, 204, 20, 205, 206, 207, 208, 11, 209, 46, 210, 211, 212, 213, 214] (by decide +kernel) (by decide +kernel)
set_option maxRecDepth 20000 in
theorem hh_L_isStep_wsL_isStep_r2 : GoodIn wsL_law wsL_isStep_r2 := goodIn_r _ [215, 216, 217, 218, 219, 220, 221, 222, 50, 161, 223, 224, 225, 226, 119, 166, 167, 168, 52, 169, 65, 147, 170, 171] (by decide +kernel) (by decide +kernel)
set_option maxRecDepth 20000 in
theorem hh_L_isStep_wsL_isStep_r3 : GoodIn wsL_law wsL_isStep_r3 := goodIn_r _ [172, 173, 227, 228, 229, 230, 231, 232, 233, 48, 234, 137, 130, 132, 131, 235, 236, 237, 238, 239, 240, 241, 103, 95] (by decide +kernel) (by decide +kernel)
set_option maxRecDepth 20000 in
theorem hh_L_isStep_wsL_isStep_r4 : GoodIn wsL_law wsL_isStep_r4 := goodIn_r _ [96, 92, 97, 98, 242, 243, 244, 245, 246, 163, 164, 165, 121, 247, 248, 249, 250, 58, 133, 134, 135, 136, 138, 139] (by decide +kernel) (by decide +kernel)
set_option maxRecDepth 20000 in
theorem hh_L_isStep_wsL_isStep_r5 : GoodIn wsL_law wsL_isStep_r5 := goodIn_r _ [140, 141, 251, 252, 253, 254, 255, 256, 257, 258, 259, 260, 261, 262, 106, 107, 108, 15, 109, 110, 71, 111, 112, 113] (by decide +kernel) (by decide +kernel)
set_option maxRecDepth 20000 in
theorem hh_L_isStep_wsL_isStep_r6 : GoodIn wsL_law wsL_isStep_r6 := goodIn_r _ [114, 115, 116, 117, 118, 120, 40, 122, 123, 124, 125, 42, 43, 44, 126, 127, 128, 129, 59, 142, 143, 144, 145, 146] (by decide +kernel) (by decide +kernel)
set_option maxRecDepth 20000 in
theorem hh_L_isStep_wsL_isStep_r7 : GoodIn wsL_law wsL_isStep_r7 := goodIn_r _ [263, 264, 265, 266, 267, 268, 269, 105, 270, 271, 188, 189, 190, 272, 273, 274, 275, 187, 276, 277, 278, 279, 280, 281] (by decide +kernel) (by decide +kernel)
set_option maxRecDepth 20000 in
theorem hh_L_isStep_wsL_isStep_r8 : GoodIn wsL_law wsL_isStep_r8 := goodIn_r _ [282, 283, 284, 285, 286, 162, 287, 288, 289, 290, 291, 292, 293, 294, 295, 296, 297, 298, 299, 300, 301, 302, 99, 100] (by decide +kernel) (by decide +kernel)
set_option maxRecDepth 20000 in
theorem hh_L_isStep_wsL_isStep_r9 : GoodIn wsL_law wsL_isStep_r9 := goodIn_r _ [101, 102, 148, 149, 150, 151, 152, 153, 154, 155, 156, 157, 158, 159, 160, 174, 175, 176, 177, 178, 179, 180, 181, 182] (by decide +kernel) (by decide +kernel)
set_option maxRecDepth 20000 in
theorem hh_L_isStep_wsL_isStep_r10 : GoodIn wsL_law wsL_isStep_r10 := goodIn_r _ [183, 184, 185, 186, 303, 304, 305, 306, 307, 308, 309, 310, 311, 312, 313, 314, 315, 316, 317, 318, 319, 320, 321, 322] (by decide +kernel) (by decide +kernel)
set_option maxRecDepth 20000 in
theorem hh_L_isStep_wsL_isStep_r11 : GoodIn wsL_law wsL_isStep_r11 := goodIn_r _ [323, 324, 325, 326, 327, 328, 329, 330, 331, 332, 333, 334, 335, 336, 337, 338, 339, 340, 341, 342, 343, 344, 345, 346] (by decide +kernel) (by decide +kernel)
set_option maxRecDepth 20000 in
theorem hh_L_isStep_wsL_isStep_r12 : GoodIn wsL_law wsL_isStep_r12 := goodIn_r _ [347, 348, 349, 350, 351, 352, 353, 354, 355, 356, 357, 358, 359, 360, 361, 362, 363, 364, 365, 366, 367, 28, 368, 369] (by decide +kernel) (by decide +kernel)
set_option maxRecDepth 20000 in
theorem hh_L_isStep_wsL_isStep_r13 : GoodIn wsL_law wsL_isStep_r13 := goodIn_r _ [29, 370, 371, 372, 27, 373, 374, 375, 376, 377, 378, 379, 380, 381, 382, 383, 384, 385, 386, 387, 388, 389, 390, 391] (by decide +kernel) (by decide +kernel)
set_option maxRecDepth 20000 in
theorem hh_L_isStep_wsL_isStep_r14 : GoodIn wsL_law wsL_isStep_r14 := goodIn_r _ [392, 393, 394, 395, 396, 397, 398, 399, 400, 401, 402, 403, 404, 405, 406, 407, 408, 409, 410, 411, 412, 413, 414, 415] (by decide +kernel) (by decide +kernel)
set_option maxRecDepth 20000 in
theorem hh_L_isStep_wsL_isStep_r15 : GoodIn wsL_law wsL_isStep_r15 := goodIn_r _ [416, 417, 418, 419, 420, 421, 422, 423, 424, 57, 425, 426, 427, 428, 429, 430, 431, 432, 433, 434, 435, 436, 437, 438] (by decide +kernel) (by decide +kernel)
set_option maxRecDepth 20000 in
theorem hh_L_isStep_wsL_isStep_r16 : GoodIn wsL_law wsL_isStep_r16 := goodIn_r _ [439, 440, 441, 442, 443, 444, 445, 446, 447, 448, 449, 450, 451, 452, 453, 454, 455, 456, 457, 458, 459, 460, 461, 462] (by decide +kernel) (by decide +kernel)
set_option maxRecDepth 20000 in
theorem hh_L_isStep_wsL_isStep_r17 : GoodIn wsL_law wsL_isStep_r17 := goodIn_r _ [463] (by decide +kernel) (by decide +kernel)
set_option maxRecDepth 20000 in
theorem hh_L_isStep_wsX70 : GoodIn wsL_law wsX70 := goodIn_r _ [538, 539, 540, 541, 542, 543] (by decide +kernel) (by decide +kernel)
set_option maxRecDepth 20000 in
theorem hh_L_isStep_wsX00 : GoodIn wsL_law wsX00 := goodIn_r _ [544, 545, 546, 547, 548, 549, 550, 551, 552] (by decide +kernel) (by decide +kernel)
set_option maxRecDepth 20000 in
theorem hh_L_isStep_wsX20 : GoodIn wsL_law wsX20 := goodIn_r _ [553, 554] (by decide +kernel) (by decide +kernel)
set_option maxRecDepth 20000 in
theorem hh_L_isStep_wsX40 : GoodIn wsL_law wsX40 := goodIn_r _ [555, 556, 557] (by decide +kernel) (by decide +kernel)
set_option maxRecDepth 20000 in
theorem hh_L_isStep_wsX10 : GoodIn wsL_law wsX10 := goodIn_r _ [571, 572, 573, 574, 575, 576, 577, 578, 579, 580, 581, 582, 583, 584, 585] (by decide +kernel) (by decide +kernel)
set_option maxRecDepth 20000 in
theorem hh_L_isStep_wsX30 : GoodIn wsL_law wsX30 := goodIn_r _ [586, 587, 588] (by decide +kernel) (by decide +kernel)
set_option maxRecDepth 20000 in
theorem hh_L_isStep_wsX60 : GoodIn wsL_law wsX60 := goodIn_r _ [564, 565, 566, 567, 568, 569, 570] (by decide +kernel) (by decide +kernel)
set_option maxRecDepth 20000 in
theorem ggL_law_L_isStep : GoodIn wsL_law wsL_isStep := goodIn_app (a := [.code yL_isStep cL_isStep 11 (some .boolean)]) (goodIn_one 198 rfl (by decide +kernel)) (goodIn_app (goodIn_app (goodIn_app (goodIn_app (goodIn_app (goodIn_app (goodIn_app (goodIn_app (hh_L_isStep_wsL_isStep_r1) (goodIn_app (hh_L_isStep_wsL_isStep_r2) (goodIn_app (hh_L_isStep_wsL_isStep_r3) (goodIn_app (hh_L_isStep_wsL_isStep_r4) (goodIn_app (hh_L_isStep_wsL_isStep_r5) (goodIn_app (hh_L_isStep_wsL_isStep_r6) (goodIn_app (hh_L_isStep_wsL_isStep_r7) (goodIn_app (hh_L_isStep_wsL_isStep_r8) (goodIn_app (hh_L_isStep_wsL_isStep_r9) (goodIn_app (hh_L_isStep_wsL_isStep_r10) (goodIn_app (hh_L_isStep_wsL_isStep_r11) (goodIn_app (hh_L_isStep_wsL_isStep_r12) (goodIn_app (hh_L_isStep_wsL_isStep_r13) (goodIn_app (hh_L_isStep_wsL_isStep_r14) (goodIn_app (hh_L_isStep_wsL_isStep_r15) (goodIn_app (hh_L_isStep_wsL_isStep_r16) (hh_L_isStep_wsL_isStep_r17))))))))))))))))) (hh_L_isStep_wsX70)) (hh_L_isStep_wsX00)) (hh_L_isStep_wsX20)) (hh_L_isStep_wsX40)) (hh_L_isStep_wsX10)) (hh_L_isStep_wsX30)) (hh_L_isStep_wsX60))
set_option maxRecDepth 20000 in
theorem gL_law_L_isStep : GoodIn wsL_law (va_wsS RL 74 yL_isStep wsL_isStep) := goodIn_app (goodIn_of _ (by decide +kernel)) ggL_law_L_isStep
set_option maxRecDepth 20000 in
theorem hh_L_areAlike_wsL_areAlike_r1 : GoodIn wsL_law wsL_areAlike_r1 := goodIn_r _ [199, 200, 201, 2, 202, 12, 104, 195, 203, 16, 204, 20, 205, 206, 207, 208, 11, 209, 46, 210, 211, 212, 213, 214] (by decide +kernel) (by decide +kernel)
set_option maxRecDepth 20000 in
theorem hh_L_areAlike_wsL_areAlike_r2 : GoodIn wsL_law wsL_areAlike_r2 := goodIn_r _ [215, 216, 217, 218, 219, 220, 221, 222, 50, 161, 223, 224, 225, 226, 119, 166, 167, 168, 52, 169, 65, 147, 170, 171] (by decide +kernel) (by decide +kernel)
set_option maxRecDepth 20000 in
theorem hh_L_areAlike_wsL_areAlike_r3 : GoodIn wsL_law wsL_areAlike_r3 := goodIn_r _ [172, 173, 227, 228, 229, 230, 231, 232, 233, 48, 234, 137, 130, 132, 131, 235, 236, 237, 238, 239, 240, 241, 103, 467] (by decide +kernel) (by decide +kernel)
set_option maxRecDepth 20000 in
theorem hh_L_areAlike_wsL_areAlike_r4 : GoodIn wsL_law wsL_areAlike_r4 := goodIn_r _ [468, 469, 470, 270, 268, 271, 188, 189, 190, 120, 471, 472, 473, 474, 182, 475, 476, 477, 478, 479, 255, 256, 257, 133] (by decide +kernel) (by decide +kernel)
set_option maxRecDepth 20000 in
theorem hh_L_areAlike_wsL_areAlike_r5 : GoodIn wsL_law wsL_areAlike_r5 := goodIn_r _ [138, 480, 481, 482, 483, 429, 484, 485, 486, 487, 488, 489, 242, 243, 244, 245, 246, 163, 164, 165, 121, 247, 248, 249] (by decide +kernel) (by decide +kernel)
set_option maxRecDepth 20000 in
theorem hh_L_areAlike_wsL_areAlike_r6 : GoodIn wsL_law wsL_areAlike_r6 := goodIn_r _ [250, 58, 134, 135, 136, 139, 140, 141, 251, 252, 253, 254, 490, 491, 492, 493, 463, 283, 284, 285, 286, 162, 494, 296] (by decide +kernel) (by decide +kernel)
set_option maxRecDepth 20000 in
theorem hh_L_areAlike_wsL_areAlike_r7 : GoodIn wsL_law wsL_areAlike_r7 := goodIn_r _ [297, 298, 287, 288, 289, 290, 495, 300, 301, 302, 291, 292, 293, 294, 295, 299] (by decide +kernel) (by decide +kernel)
set_option maxRecDepth 20000 in
theorem hh_L_areAlike_wsX70 : GoodIn wsL_law wsX70 := goodIn_r _ [538, 539, 540, 541, 542, 543] (by decide +kernel) (by decide +kernel)
set_option maxRecDepth 20000 in
theorem hh_L_areAlike_wsX00 : GoodIn wsL_law wsX00 := goodIn_r _ [544, 545, 546, 547, 548, 549, 550, 551, 552] (by decide +kernel) (by decide +kernel)
set_option maxRecDepth 20000 in
theorem hh_L_areAlike_wsX20 : GoodIn wsL_law wsX20 := goodIn_r _ [553, 554] (by decide +kernel) (by decide +kernel)
set_option maxRecDepth 20000 in
theorem hh_L_areAlike_wsX40 : GoodIn wsL_law wsX40 := goodIn_r _ [555, 556, 557] (by decide +kernel) (by decide +kernel)
set_option maxRecDepth 20000 in
theorem hh_L_areAlike_wsX10 : GoodIn wsL_law wsX10 := goodIn_r _ [571, 572, 573, 574, 575, 576, 577, 578, 579, 580, 581, 582, 583, 584, 585] (by decide +kernel) (by decide +kernel)
set_option maxRecDepth 20000 in
theorem hh_L_areAlike_wsX30 : GoodIn wsL_law wsX30 := goodIn_r _ [586, 587, 588] (by decide +kernel) (by decide +kernel)
set_option maxRecDepth 20000 in
theorem ggL_law_L_areAlike : GoodIn wsL_law wsL_areAlike := goodIn_app (a := [.code yL_areAlike cL_areAlike 8 (some .boolean)]) (goodIn_one 466 rfl (by decide +kernel)) (goodIn_app (goodIn_app (goodIn_app (goodIn_app (goodIn_app (goodIn_app (goodIn_app (hh_L_areAlike_wsL_areAlike_r1) (goodIn_app (hh_L_areAlike_wsL_areAlike_r2) (goodIn_app (hh_L_areAlike_wsL_areAlike_r3) (goodIn_app (hh_L_areAlike_wsL_areAlike_r4) (goodIn_app (hh_L_areAlike_wsL_areAlike_r5) (goodIn_app (hh_L_areAlike_wsL_areAlike_r6) (hh_L_areAlike_wsL_areAlike_r7))))))) (hh_L_areAlike_wsX70)) (hh_L_areAlike_wsX00)) (hh_L_areAlike_wsX20)) (hh_L_areAlike_wsX40)) (hh_L_areAlike_wsX10)) (hh_L_areAlike_wsX30))
set_option maxRecDepth 20000 in
theorem gL_law_L_areAlike : GoodIn wsL_law (va_wsS RL 78 yL_areAlike wsL_areAlike) := goodIn_app (goodIn_of _ (by decide +kernel)) ggL_law_L_areAlike
set_option maxRecDepth 20000 in
theorem hh_L_isSound_wsL_isSound_r1 : GoodIn wsL_law wsL_isSound_r1 := goodIn_r _ [499, 467, 468, 469, 2, 470, 12, 103, 270, 268, 271, 188, 189, 11, 190, 120, 471, 472, 473, 474, 46, 182, 475, 476] (by decide +kernel) (by decide +kernel)
set_option maxRecDepth 20000 in
theorem hh_L_isSound_wsL_isSound_r2 : GoodIn wsL_law wsL_isSound_r2 := goodIn_r _ [477, 478, 479, 255, 256, 48, 257, 133, 137, 138, 235, 213, 214, 215, 216, 217, 218, 480, 481, 482, 483, 429, 484, 220] (by decide +kernel) (by decide +kernel)
set_option maxRecDepth 20000 in
theorem hh_L_isSound_wsL_isSound_r3 : GoodIn wsL_law wsL_isSound_r3 := goodIn_r _ [221, 222, 50, 161, 485, 486, 487, 488, 489, 199, 200, 201, 202, 104, 195, 203, 16, 204, 20, 205, 206, 207, 208, 209] (by decide +kernel) (by decide +kernel)
set_option maxRecDepth 20000 in
theorem hh_L_isSound_wsL_isSound_r4 : GoodIn wsL_law wsL_isSound_r4 := goodIn_r _ [210, 211, 212, 219, 223, 224, 225, 226, 119, 166, 167, 168, 52, 169, 65, 147, 170, 171, 172, 173, 227, 228, 229, 230] (by decide +kernel) (by decide +kernel)
set_option maxRecDepth 20000 in
theorem hh_L_isSound_wsL_isSound_r5 : GoodIn wsL_law wsL_isSound_r5 := goodIn_r _ [231, 232, 233, 234, 130, 132, 131, 236, 237, 238, 239, 240, 241, 242, 243, 244, 245, 246, 163, 164, 165, 121, 247, 248] (by decide +kernel) (by decide +kernel)
set_option maxRecDepth 20000 in
theorem hh_L_isSound_wsL_isSound_r6 : GoodIn wsL_law wsL_isSound_r6 := goodIn_r _ [249, 250, 58, 134, 135, 136, 139, 140, 141, 251, 252, 253, 254, 500, 501, 502, 503, 463, 504, 505, 506, 507, 405, 406] (by decide +kernel) (by decide +kernel)
set_option maxRecDepth 20000 in
theorem hh_L_isSound_wsL_isSound_r7 : GoodIn wsL_law wsL_isSound_r7 := goodIn_r _ [407, 408, 409, 154, 155, 156, 508, 509, 510, 511, 512, 513, 514, 515, 516, 421, 422, 423, 424, 57, 425, 426, 427, 428] (by decide +kernel) (by decide +kernel)
set_option maxRecDepth 20000 in
theorem hh_L_isSound_wsL_isSound_r8 : GoodIn wsL_law wsL_isSound_r8 := goodIn_r _ [153] (by decide +kernel) (by decide +kernel)
set_option maxRecDepth 20000 in
theorem hh_L_isSound_wsX70 : GoodIn wsL_law wsX70 := goodIn_r _ [538, 539, 540, 541, 542, 543] (by decide +kernel) (by decide +kernel)
set_option maxRecDepth 20000 in
theorem hh_L_isSound_wsX00 : GoodIn wsL_law wsX00 := goodIn_r _ [544, 545, 546, 547, 548, 549, 550, 551, 552] (by decide +kernel) (by decide +kernel)
set_option maxRecDepth 20000 in
theorem hh_L_isSound_wsX10 : GoodIn wsL_law wsX10 := goodIn_r _ [571, 572, 573, 574, 575, 576, 577, 578, 579, 580, 581, 582, 583, 584, 585] (by decide +kernel) (by decide +kernel)
set_option maxRecDepth 20000 in
theorem hh_L_isSound_wsX30 : GoodIn wsL_law wsX30 := goodIn_r _ [586, 587, 588] (by decide +kernel) (by decide +kernel)
set_option maxRecDepth 20000 in
theorem hh_L_isSound_wsX20 : GoodIn wsL_law wsX20 := goodIn_r _ [553, 554] (by decide +kernel) (by decide +kernel)
set_option maxRecDepth 20000 in
theorem hh_L_isSound_wsX40 : GoodIn wsL_law wsX40 := goodIn_r _ [555, 556, 557] (by decide +kernel) (by decide +kernel)
set_option maxRecDepth 20000 in
theorem ggL_law_L_isSound : GoodIn wsL_law wsL_isSound := goodIn_app (a := [.code yL_isSound cL_isSound 7 (some .boolean)]) (goodIn_one 498 rfl (by decide +kernel)) (goodIn_app (goodIn_app (goodIn_app (goodIn_app (goodIn_app (goodIn_app (goodIn_app (hh_L_isSound_wsL_isSound_r1) (goodIn_app (hh_L_isSound_wsL_isSound_r2) (goodIn_app (hh_L_isSound_wsL_isSound_r3) (goodIn_app (hh_L_isSound_wsL_isSound_r4) (goodIn_app (hh_L_isSound_wsL_isSound_r5) (goodIn_app (hh_L_isSound_wsL_isSound_r6) (goodIn_app (hh_L_isSound_wsL_isSound_r7) (hh_L_isSound_wsL_isSound_r8)))))))) (hh_L_isSound_wsX70)) (hh_L_isSound_wsX00)) (hh_L_isSound_wsX10)) (hh_L_isSound_wsX30)) (hh_L_isSound_wsX20)) (hh_L_isSound_wsX40))
set_option maxRecDepth 20000 in
theorem gL_law_L_isSound : GoodIn wsL_law (va_wsS RL 82 yL_isSound wsL_isSound) := goodIn_app (goodIn_of _ (by decide +kernel)) ggL_law_L_isSound
set_option maxRecDepth 20000 in
theorem ggL_law_X7_hirer : GoodIn wsL_law wsX7_hirer := goodIn_r _ [470, 12, 103, 270, 268, 271, 188, 189, 11, 190, 120, 471, 472, 473, 474, 46, 182, 475, 476, 477, 478, 479, 255, 256, 48, 257, 133, 137, 138, 235, 213, 214, 215, 216, 217, 218, 480, 481, 482, 483, 429, 484, 220, 221, 222, 50, 161, 485, 486, 487, 488, 489, 538, 539, 540, 541, 542, 543, 544, 545, 546, 547, 548, 549, 550, 551, 552, 571, 572, 573, 574, 575, 576, 577, 578, 579, 580, 581, 582, 583, 584, 585, 586, 587, 588] (by decide +kernel) (by decide +kernel)
set_option maxRecDepth 20000 in
theorem gL_law_X7_hirer : GoodIn wsL_law (wsV RL 56 RX7 yX7_hirer wsX7_hirer) := goodIn_app (goodIn_of _ (by decide +kernel)) ggL_law_X7_hirer
set_option maxRecDepth 20000 in
theorem ggL_law_X7_count : GoodIn wsL_law wsX7_count := goodIn_r _ [202, 12, 104, 195, 203, 16, 204, 20, 205, 206, 207, 208, 11, 209, 46, 210, 211, 212, 213, 214, 215, 216, 217, 218, 219, 220, 221, 222, 50, 161, 223, 224, 225, 226, 119, 166, 167, 168, 52, 169, 65, 147, 170, 171, 172, 173, 227, 228, 229, 230, 231, 232, 233, 48, 234, 137, 130, 132, 131, 235, 236, 237, 238, 2, 239, 240, 241, 103, 538, 539, 540, 541, 542, 543, 544, 545, 546, 547, 548, 549, 550, 551, 552, 553, 554, 555, 556, 557, 571, 572, 573, 574, 575, 576, 577, 578, 579, 580, 581, 582, 583, 584, 585, 586, 587, 588] (by decide +kernel) (by decide +kernel)
set_option maxRecDepth 20000 in
theorem gL_law_X7_count : GoodIn wsL_law (wsV RL 9 RX7 yX7_count wsX7_count) := goodIn_app (goodIn_of _ (by decide +kernel)) ggL_law_X7_count
set_option maxRecDepth 20000 in
theorem ggL_law_X7_pay : GoodIn wsL_law wsX7_pay := goodIn_r _ [266, 12, 267, 103, 268, 269, 105, 16, 270, 271, 188, 189, 11, 190, 120, 106, 107, 108, 15, 109, 110, 71, 111, 112, 113, 114, 115, 116, 117, 118, 119, 121, 40, 122, 123, 124, 125, 42, 43, 44, 46, 50, 126, 127, 128, 48, 129, 58, 130, 131, 132, 133, 134, 135, 136, 137, 138, 139, 140, 141, 59, 142, 143, 144, 145, 52, 146, 65, 147, 272, 273, 274, 275, 187, 538, 539, 540, 541, 542, 543, 544, 545, 546, 547, 548, 549, 550, 551, 552, 553, 554, 571, 572, 573, 574, 575, 576, 577, 578, 579, 580, 581, 582, 583, 584, 585, 586, 587, 588] (by decide +kernel) (by decide +kernel)
set_option maxRecDepth 20000 in
theorem gL_law_X7_pay : GoodIn wsL_law (wsV RL 27 RX7 yX7_pay wsX7_pay) := goodIn_app (goodIn_of _ (by decide +kernel)) ggL_law_X7_pay
set_option maxRecDepth 20000 in
theorem ggL_law_X7_undo : GoodIn wsL_law wsX7_undo := goodIn_r _ [520, 16, 204, 280, 12, 521, 522, 523, 15, 524, 110, 71, 115, 116, 117, 11, 118, 119, 120, 121, 40, 122, 123, 124, 125, 42, 43, 44, 46, 50, 126, 127, 128, 48, 129, 58, 130, 131, 132, 133, 134, 135, 136, 137, 138, 139, 140, 141, 59, 142, 143, 144, 145, 52, 146, 65, 147, 538, 539, 540, 541, 542, 543, 553, 554, 544, 545, 546, 547, 548, 549, 550, 551, 552, 571, 572, 573, 574, 575, 576, 577, 578, 579, 580, 581, 582, 583, 584, 585, 586, 587, 588] (by decide +kernel) (by decide +kernel)
set_option maxRecDepth 20000 in
theorem gL_law_X7_undo : GoodIn wsL_law (wsV RL 86 RX7 yX7_undo wsX7_undo) := goodIn_app (goodIn_of _ (by decide +kernel)) ggL_law_X7_undo
set_option maxRecDepth 20000 in
theorem ggL_law_X7_firstFree : GoodIn wsL_law wsX7_firstFree := goodIn_r _ [528, 12, 103, 104, 529, 171, 172, 173, 240, 463, 271, 188, 189, 11, 190, 120, 383, 384, 2, 385, 530, 531, 532, 533, 46, 415, 182, 419, 418, 405, 406, 407, 48, 408, 409, 154, 155, 156, 134, 135, 133, 138, 534, 535, 536, 180, 181, 537, 538, 539, 540, 541, 542, 543, 544, 545, 546, 547, 548, 549, 550, 551, 552, 571, 572, 573, 574, 575, 576, 577, 578, 579, 580, 581, 582, 583, 584, 585] (by decide +kernel) (by decide +kernel)
set_option maxRecDepth 20000 in
theorem gL_law_X7_firstFree : GoodIn wsL_law (wsV RL 89 RX7 yX7_firstFree wsX7_firstFree) := goodIn_app (goodIn_of _ (by decide +kernel)) ggL_law_X7_firstFree
