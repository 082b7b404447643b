/-! ===== the law's methods: names ===== -/
set_option maxRecDepth 20000 in
theorem ggL_isStep_X7_count : GoodIn wsL_isStep wsX7_count := goodIn_r _ [5, 6, 7, 8, 9, 10, 11, 12, 13, 14, 15, 16, 17, 18, 19, 20, 21, 22, 23, 24, 25, 26, 27, 28, 29, 30, 31, 32, 33, 34, 35, 36, 37, 38, 39, 40, 41, 42, 43, 44, 45, 46, 47, 48, 49, 50, 51, 52, 53, 54, 55, 56, 57, 58, 59, 60, 61, 62, 63, 64, 65, 66, 67, 4, 68, 69, 70, 71, 386, 387, 388, 389, 390, 391, 392, 393, 394, 395, 396, 397, 398, 399, 400, 401, 402, 403, 404, 405, 406, 407, 408, 409, 410, 411, 412, 413, 414, 415, 416, 417, 418, 419, 420, 421, 422, 423] (by decide +kernel) (by decide +kernel)
set_option maxRecDepth 20000 in
theorem gL_isStep_X7_count : GoodIn wsL_isStep (wsV RL 9 RX7 yX7_count wsX7_count) := goodIn_app (goodIn_of _ (by decide +kernel)) ggL_isStep_X7_count
set_option maxRecDepth 20000 in
theorem ggL_isStep_L_up : GoodIn wsL_isStep wsL_up := goodIn_r _ [75, 76] (by decide +kernel) (by decide +kernel)
set_option maxRecDepth 20000 in
theorem gL_isStep_L_up : GoodIn wsL_isStep (va_wsS RL 15 yL_up wsL_up) := goodIn_app (goodIn_of _ (by decide +kernel)) ggL_isStep_L_up
set_option maxRecDepth 20000 in
theorem ggL_isStep_X7_hireInfo : GoodIn wsL_isStep wsX7_hireInfo := goodIn_r _ [80, 6, 71, 81, 82, 83, 17, 84, 85, 19, 29, 30, 31, 32, 33, 34, 86, 87, 88, 58, 89, 90, 61, 63, 62, 91, 92, 93, 94, 60, 95, 96, 97, 98, 99, 100, 4, 101, 102, 103, 104, 105, 64, 23, 24, 25, 26, 27, 28, 386, 387, 388, 389, 390, 391, 392, 393, 394, 395, 396, 397, 398, 399, 400, 421, 422, 423, 406, 407, 408, 409, 410, 411, 412, 413, 414, 415, 416, 417, 418, 419, 420] (by decide +kernel) (by decide +kernel)
set_option maxRecDepth 20000 in
theorem gL_isStep_X7_hireInfo : GoodIn wsL_isStep (wsV RL 21 RX7 yX7_hireInfo wsX7_hireInfo) := goodIn_app (goodIn_of _ (by decide +kernel)) ggL_isStep_X7_hireInfo
set_option maxRecDepth 20000 in
theorem ggL_isStep_X7_set : GoodIn wsL_isStep wsX7_set := goodIn_r _ [109, 110, 71, 10, 6, 69, 111, 112, 113, 114, 115, 116, 117, 118, 119, 120, 121, 122, 123, 124, 17, 125, 39, 126, 85, 127, 128, 129, 130, 131, 132, 133, 134, 19, 33, 135, 136, 137, 58, 138, 90, 61, 63, 62, 91, 92, 93, 94, 60, 95, 96, 97, 98, 139, 140, 141, 142, 143, 43, 144, 45, 46, 386, 387, 388, 389, 390, 391, 392, 393, 394, 395, 396, 397, 398, 399, 400, 401, 402, 406, 407, 408, 409, 410, 411, 412, 413, 414, 415, 416, 417, 418, 419, 420, 421, 422, 423] (by decide +kernel) (by decide +kernel)
set_option maxRecDepth 20000 in
theorem gL_isStep_X7_set : GoodIn wsL_isStep (wsV RL 24 RX7 yX7_set wsX7_set) := goodIn_app (goodIn_of _ (by decide +kernel)) ggL_isStep_X7_set
set_option maxRecDepth 20000 in
theorem ggL_isStep_X7_pay : GoodIn wsL_isStep wsX7_pay := goodIn_r _ [148, 6, 149, 71, 150, 151, 152, 10, 153, 154, 155, 156, 17, 157, 126, 111, 112, 113, 114, 115, 116, 117, 118, 119, 120, 121, 122, 123, 124, 125, 39, 85, 127, 128, 129, 130, 131, 132, 133, 134, 19, 33, 135, 136, 137, 58, 138, 90, 61, 63, 62, 91, 92, 93, 94, 60, 95, 96, 97, 98, 139, 140, 141, 142, 143, 43, 144, 45, 46, 158, 159, 160, 161, 162, 386, 387, 388, 389, 390, 391, 392, 393, 394, 395, 396, 397, 398, 399, 400, 401, 402, 406, 407, 408, 409, 410, 411, 412, 413, 414, 415, 416, 417, 418, 419, 420, 421, 422, 423] (by decide +kernel) (by decide +kernel)
set_option maxRecDepth 20000 in
theorem gL_isStep_X7_pay : GoodIn wsL_isStep (wsV RL 27 RX7 yX7_pay wsX7_pay) := goodIn_app (goodIn_of _ (by decide +kernel)) ggL_isStep_X7_pay
set_option maxRecDepth 20000 in
theorem ggL_isStep_X7_cancel : GoodIn wsL_isStep wsX7_cancel := goodIn_r _ [166, 6, 71, 167, 10, 7, 168, 169, 170, 171, 172, 17, 173, 20, 174, 82, 83, 84, 85, 19, 175, 176, 177, 58, 178, 60, 95, 111, 112, 113, 114, 115, 116, 117, 118, 119, 120, 121, 122, 123, 124, 125, 39, 126, 127, 128, 129, 130, 131, 132, 133, 134, 33, 135, 136, 137, 138, 90, 61, 63, 62, 91, 92, 93, 94, 96, 97, 98, 139, 140, 141, 142, 143, 43, 144, 45, 46, 179, 180, 181, 182, 183, 184, 185, 186, 187, 188, 189, 190, 158, 159, 160, 161, 162, 155, 156, 157, 386, 387, 388, 389, 390, 391, 392, 393, 394, 395, 396, 397, 398, 399, 400, 406, 407, 408, 409, 410, 411, 412, 413, 414, 415, 416, 417, 418, 419, 420, 401, 402, 421, 422, 423] (by decide +kernel) (by decide +kernel)
set_option maxRecDepth 20000 in
theorem gL_isStep_X7_cancel : GoodIn wsL_isStep (wsV RL 30 RX7 yX7_cancel wsX7_cancel) := goodIn_app (goodIn_of _ (by decide +kernel)) ggL_isStep_X7_cancel
set_option maxRecDepth 20000 in
theorem ggL_isStep_X7_pass : GoodIn wsL_isStep wsX7_pass := goodIn_r _ [194, 71, 6, 7, 152, 10, 111, 112, 113, 114, 115, 116, 117, 118, 119, 120, 121, 122, 123, 124, 17, 125, 39, 126, 85, 127, 128, 129, 130, 131, 132, 133, 134, 19, 33, 135, 136, 137, 58, 138, 90, 61, 63, 62, 91, 92, 93, 94, 60, 95, 96, 97, 98, 139, 140, 141, 142, 143, 43, 144, 45, 46, 195, 196, 197, 198, 199, 200, 201, 202, 203, 204, 205, 206, 207, 34, 174, 82, 83, 84, 40, 41, 42, 44, 47, 48, 49, 50, 208, 209, 210, 211, 212, 213, 214, 215, 216, 217, 218, 219, 220, 162, 155, 156, 157, 386, 387, 388, 389, 390, 391, 392, 393, 394, 395, 396, 397, 398, 399, 400, 401, 402, 406, 407, 408, 409, 410, 411, 412, 413, 414, 415, 416, 417, 418, 419, 420, 421, 422, 423] (by decide +kernel) (by decide +kernel)
set_option maxRecDepth 20000 in
theorem gL_isStep_X7_pass : GoodIn wsL_isStep (wsV RL 33 RX7 yX7_pass wsX7_pass) := goodIn_app (goodIn_of _ (by decide +kernel)) ggL_isStep_X7_pass
set_option maxRecDepth 20000 in
theorem ggL_isStep_X7_lend : GoodIn wsL_isStep wsX7_lend := goodIn_r _ [224, 6, 71, 225, 226, 227, 167, 10, 69, 228, 229, 230, 231, 17, 232, 33, 81, 82, 83, 84, 85, 19, 233, 234, 235, 58, 236, 91, 237, 176, 177, 178, 60, 95, 183, 184, 185, 186, 92, 93, 111, 112, 113, 114, 115, 116, 117, 118, 119, 120, 121, 122, 123, 124, 125, 39, 126, 127, 128, 129, 130, 131, 132, 133, 134, 135, 136, 137, 138, 90, 61, 63, 62, 94, 96, 97, 98, 139, 140, 141, 142, 143, 43, 144, 45, 46, 386, 387, 388, 389, 390, 391, 421, 422, 423, 406, 407, 408, 409, 410, 411, 412, 413, 414, 415, 416, 417, 418, 419, 420, 392, 393, 394, 395, 396, 397, 398, 399, 400, 401, 402] (by decide +kernel) (by decide +kernel)
set_option maxRecDepth 20000 in
theorem gL_isStep_X7_lend : GoodIn wsL_isStep (wsV RL 36 RX7 yX7_lend wsX7_lend) := goodIn_app (goodIn_of _ (by decide +kernel)) ggL_isStep_X7_lend
set_option maxRecDepth 20000 in
theorem ggL_isStep_X7_bringBack : GoodIn wsL_isStep wsX7_bringBack := goodIn_r _ [241, 6, 71, 225, 167, 10, 7, 229, 230, 231, 17, 232, 33, 111, 112, 113, 114, 115, 116, 117, 118, 119, 120, 121, 122, 123, 124, 125, 39, 126, 85, 127, 128, 129, 130, 131, 132, 133, 134, 19, 135, 136, 137, 58, 138, 90, 61, 63, 62, 91, 92, 93, 94, 60, 95, 96, 97, 98, 139, 140, 141, 142, 143, 43, 144, 45, 46, 242, 41, 42, 44, 47, 48, 49, 50, 386, 387, 388, 389, 390, 391, 421, 422, 423, 392, 393, 394, 395, 396, 397, 398, 399, 400, 401, 402, 406, 407, 408, 409, 410, 411, 412, 413, 414, 415, 416, 417, 418, 419, 420] (by decide +kernel) (by decide +kernel)
set_option maxRecDepth 20000 in
theorem gL_isStep_X7_bringBack : GoodIn wsL_isStep (wsV RL 39 RX7 yX7_bringBack wsX7_bringBack) := goodIn_app (goodIn_of _ (by decide +kernel)) ggL_isStep_X7_bringBack
set_option maxRecDepth 20000 in
theorem ggL_isStep_X7_report : GoodIn wsL_isStep wsX7_report := goodIn_r _ [246, 6, 71, 247, 167, 248, 152, 10, 170, 171, 172, 17, 173, 20, 174, 82, 83, 84, 85, 19, 175, 176, 177, 58, 178, 60, 95, 249, 250, 251, 252, 61, 111, 112, 113, 114, 115, 116, 117, 118, 119, 120, 121, 122, 123, 124, 125, 39, 126, 127, 128, 129, 130, 131, 132, 133, 134, 33, 135, 136, 137, 138, 90, 63, 62, 91, 92, 93, 94, 96, 97, 98, 139, 140, 141, 142, 143, 43, 144, 45, 46, 253, 254, 255, 256, 64, 23, 24, 25, 26, 27, 28, 257, 258, 259, 260, 261, 262, 263, 264, 265, 266, 209, 210, 211, 212, 213, 214, 49, 215, 216, 217, 218, 219, 220, 162, 155, 156, 157, 267, 268, 269, 270, 386, 387, 388, 389, 390, 391, 406, 407, 408, 409, 410, 411, 412, 413, 414, 415, 416, 417, 418, 419, 420, 392, 393, 394, 395, 396, 397, 398, 399, 400, 401, 402, 421, 422, 423] (by decide +kernel) (by decide +kernel)
set_option maxRecDepth 20000 in
theorem gL_isStep_X7_report : GoodIn wsL_isStep (wsV RL 42 RX7 yX7_report wsX7_report) := goodIn_app (goodIn_of _ (by decide +kernel)) ggL_isStep_X7_report
set_option maxRecDepth 20000 in
theorem ggL_isStep_X7_settle : GoodIn wsL_isStep wsX7_settle := goodIn_r _ [274, 6, 71, 247, 167, 10, 81, 82, 83, 17, 84, 85, 19, 275, 103, 104, 58, 105, 91, 60, 95, 64, 23, 24, 25, 26, 27, 28, 29, 30, 31, 32, 33, 34, 111, 112, 113, 114, 115, 116, 117, 118, 119, 120, 121, 122, 123, 124, 125, 39, 126, 127, 128, 129, 130, 131, 132, 133, 134, 135, 136, 137, 138, 90, 61, 63, 62, 92, 93, 94, 96, 97, 98, 139, 140, 141, 142, 143, 43, 144, 45, 46, 276, 277, 278, 279, 212, 280, 216, 281, 159, 160, 161, 162, 155, 156, 157, 386, 387, 388, 389, 390, 391, 406, 407, 408, 409, 410, 411, 412, 413, 414, 415, 416, 417, 418, 419, 420, 392, 393, 394, 395, 396, 397, 398, 399, 400, 421, 422, 423, 401, 402] (by decide +kernel) (by decide +kernel)
set_option maxRecDepth 20000 in
theorem gL_isStep_X7_settle : GoodIn wsL_isStep (wsV RL 45 RX7 yX7_settle wsX7_settle) := goodIn_app (goodIn_of _ (by decide +kernel)) ggL_isStep_X7_settle
set_option maxRecDepth 20000 in
theorem ggL_isStep_X7_hire : GoodIn wsL_isStep wsX7_hire := goodIn_r _ [285, 286, 287, 288, 6, 7, 71, 167, 289, 152, 10, 290, 291, 292, 293, 294, 295, 296, 297, 298, 299, 300, 301, 302, 303, 154, 155, 156, 17, 157, 126, 304, 305, 4, 306, 307, 308, 309, 310, 311, 312, 313, 314, 315, 316, 317, 318, 319, 320, 321, 322, 323, 324, 325, 19, 326, 327, 328, 58, 329, 330, 201, 202, 203, 92, 93, 91, 95, 331, 332, 333, 334, 216, 335, 127, 336, 337, 338, 339, 340, 341, 342, 343, 344, 345, 63, 346, 347, 348, 349, 350, 351, 200, 352, 353, 354, 355, 85, 111, 112, 113, 114, 115, 116, 117, 118, 119, 120, 121, 122, 123, 124, 125, 39, 128, 129, 130, 131, 132, 133, 134, 33, 135, 136, 137, 138, 90, 61, 62, 94, 60, 96, 97, 98, 139, 140, 141, 142, 143, 43, 144, 45, 46, 356, 357, 358, 359, 360, 361, 362, 363, 364, 365, 366, 367, 368, 369, 48, 49, 50, 100, 101, 370, 371, 372, 373, 374, 375, 376, 377, 378, 379, 380, 217, 218, 219, 220, 162, 386, 387, 388, 389, 390, 391, 424, 425, 426, 427, 428, 429, 430, 392, 393, 394, 395, 396, 397, 398, 399, 400, 406, 407, 408, 409, 410, 411, 412, 413, 414, 415, 416, 417, 418, 419, 420, 401, 402, 421, 422, 423] (by decide +kernel) (by decide +kernel)
set_option maxRecDepth 20000 in
theorem gL_isStep_X7_hire : GoodIn wsL_isStep (wsV RL 48 RX7 yX7_hire wsX7_hire) := goodIn_app (goodIn_of _ (by decide +kernel)) ggL_isStep_X7_hire
set_option maxRecDepth 20000 in
theorem ggL_isStep_X7_clash : GoodIn wsL_isStep wsX7_clash := goodIn_r _ [384, 289, 385, 386, 387, 388, 389, 390, 391] (by decide +kernel) (by decide +kernel)
set_option maxRecDepth 20000 in
theorem gL_isStep_X7_clash : GoodIn wsL_isStep (wsV RL 52 RX7 yX7_clash wsX7_clash) := goodIn_app (goodIn_of _ (by decide +kernel)) ggL_isStep_X7_clash
theorem dL_isStep_0 : decode cL_isStep 0 = .ok (.aload_n 0, 1) := by decide +kernel
theorem dL_isStep_1 : decode cL_isStep 1 = .ok (.iconst 2, 1) := by decide +kernel
theorem dL_isStep_2 : decode cL_isStep 2 = .ok (.invokevirtual 9, 3) := by decide +kernel
theorem dL_isStep_5 : decode cL_isStep 5 = .ok (.istore 4, 2) := by decide +kernel
theorem dL_isStep_7 : decode cL_isStep 7 = .ok (.iload 4, 2) := by decide +kernel
theorem dL_isStep_9 : decode cL_isStep 9 = .ok (.ifCond .ne 7, 3) := by decide +kernel
theorem dL_isStep_12 : decode cL_isStep 12 = .ok (.iconst 0, 1) := by decide +kernel
theorem dL_isStep_13 : decode cL_isStep 13 = .ok (.goto 11, 3) := by decide +kernel
theorem dL_isStep_16 : decode cL_isStep 16 = .ok (.iload_n 3, 1) := by decide +kernel
theorem dL_isStep_17 : decode cL_isStep 17 = .ok (.iconst 4, 1) := by decide +kernel
theorem dL_isStep_18 : decode cL_isStep 18 = .ok (.ishr, 1) := by decide +kernel
theorem dL_isStep_19 : decode cL_isStep 19 = .ok (.iload 4, 2) := by decide +kernel
theorem dL_isStep_21 : decode cL_isStep 21 = .ok (.invokestatic 15, 3) := by decide +kernel
theorem dL_isStep_24 : decode cL_isStep 24 = .ok (.istore 5, 2) := by decide +kernel
theorem dL_isStep_26 : decode cL_isStep 26 = .ok (.bipush 20, 2) := by decide +kernel
theorem dL_isStep_28 : decode cL_isStep 28 = .ok (.iload 5, 2) := by decide +kernel
theorem dL_isStep_30 : decode cL_isStep 30 = .ok (.imul, 1) := by decide +kernel
theorem dL_isStep_31 : decode cL_isStep 31 = .ok (.iload_n 3, 1) := by decide +kernel
theorem dL_isStep_32 : decode cL_isStep 32 = .ok (.bipush 8, 2) := by decide +kernel
theorem dL_isStep_34 : decode cL_isStep 34 = .ok (.ishr, 1) := by decide +kernel
theorem dL_isStep_35 : decode cL_isStep 35 = .ok (.iload 4, 2) := by decide +kernel
theorem dL_isStep_37 : decode cL_isStep 37 = .ok (.ifCond .ne 7, 3) := by decide +kernel
theorem dL_isStep_40 : decode cL_isStep 40 = .ok (.iconst 1, 1) := by decide +kernel
theorem dL_isStep_41 : decode cL_isStep 41 = .ok (.goto 10, 3) := by decide +kernel
theorem dL_isStep_44 : decode cL_isStep 44 = .ok (.aload_n 0, 1) := by decide +kernel
theorem dL_isStep_45 : decode cL_isStep 45 = .ok (.iload 5, 2) := by decide +kernel
theorem dL_isStep_47 : decode cL_isStep 47 = .ok (.iconst 4, 1) := by decide +kernel
theorem dL_isStep_48 : decode cL_isStep 48 = .ok (.invokevirtual 21, 3) := by decide +kernel
theorem dL_isStep_51 : decode cL_isStep 51 = .ok (.invokestatic 15, 3) := by decide +kernel
theorem dL_isStep_54 : decode cL_isStep 54 = .ok (.iadd, 1) := by decide +kernel
theorem dL_isStep_55 : decode cL_isStep 55 = .ok (.istore 6, 2) := by decide +kernel
theorem dL_isStep_57 : decode cL_isStep 57 = .ok (.iload_n 3, 1) := by decide +kernel
theorem dL_isStep_58 : decode cL_isStep 58 = .ok (.bipush 12, 2) := by decide +kernel
theorem dL_isStep_60 : decode cL_isStep 60 = .ok (.invokestatic 15, 3) := by decide +kernel
theorem dL_isStep_63 : decode cL_isStep 63 = .ok (.tableswitch 456 0 9 #[53, 173, 228, 228, 249, 249, 296, 365, 398, 435], 53) := by decide +kernel
theorem dL_isStep_116 : decode cL_isStep 116 = .ok (.iload_n 3, 1) := by decide +kernel
theorem dL_isStep_117 : decode cL_isStep 117 = .ok (.iconst 4, 1) := by decide +kernel
theorem dL_isStep_118 : decode cL_isStep 118 = .ok (.ishr, 1) := by decide +kernel
theorem dL_isStep_119 : decode cL_isStep 119 = .ok (.bipush 8, 2) := by decide +kernel
theorem dL_isStep_121 : decode cL_isStep 121 = .ok (.invokestatic 15, 3) := by decide +kernel
theorem dL_isStep_124 : decode cL_isStep 124 = .ok (.istore 7, 2) := by decide +kernel
theorem dL_isStep_126 : decode cL_isStep 126 = .ok (.iload 7, 2) := by decide +kernel
theorem dL_isStep_128 : decode cL_isStep 128 = .ok (.iconst 3, 1) := by decide +kernel
theorem dL_isStep_129 : decode cL_isStep 129 = .ok (.if_icmp .ne 15, 3) := by decide +kernel
theorem dL_isStep_132 : decode cL_isStep 132 = .ok (.iload_n 3, 1) := by decide +kernel
theorem dL_isStep_133 : decode cL_isStep 133 = .ok (.bipush 7, 2) := by decide +kernel
theorem dL_isStep_135 : decode cL_isStep 135 = .ok (.ishr, 1) := by decide +kernel
theorem dL_isStep_136 : decode cL_isStep 136 = .ok (.bipush 101, 2) := by decide +kernel
theorem dL_isStep_138 : decode cL_isStep 138 = .ok (.invokestatic 15, 3) := by decide +kernel
theorem dL_isStep_141 : decode cL_isStep 141 = .ok (.goto 68, 3) := by decide +kernel
theorem dL_isStep_144 : decode cL_isStep 144 = .ok (.iload 7, 2) := by decide +kernel
theorem dL_isStep_146 : decode cL_isStep 146 = .ok (.iconst 4, 1) := by decide +kernel
theorem dL_isStep_147 : decode cL_isStep 147 = .ok (.if_icmp .ne 14, 3) := by decide +kernel
theorem dL_isStep_150 : decode cL_isStep 150 = .ok (.iload_n 3, 1) := by decide +kernel
theorem dL_isStep_151 : decode cL_isStep 151 = .ok (.bipush 7, 2) := by decide +kernel
theorem dL_isStep_153 : decode cL_isStep 153 = .ok (.ishr, 1) := by decide +kernel
theorem dL_isStep_154 : decode cL_isStep 154 = .ok (.iconst 4, 1) := by decide +kernel
theorem dL_isStep_155 : decode cL_isStep 155 = .ok (.invokestatic 15, 3) := by decide +kernel
theorem dL_isStep_158 : decode cL_isStep 158 = .ok (.goto 51, 3) := by decide +kernel
theorem dL_isStep_161 : decode cL_isStep 161 = .ok (.iload 7, 2) := by decide +kernel
theorem dL_isStep_163 : decode cL_isStep 163 = .ok (.iconst 5, 1) := by decide +kernel
theorem dL_isStep_164 : decode cL_isStep 164 = .ok (.if_icmp .ne 16, 3) := by decide +kernel
theorem dL_isStep_167 : decode cL_isStep 167 = .ok (.iload_n 3, 1) := by decide +kernel
theorem dL_isStep_168 : decode cL_isStep 168 = .ok (.bipush 7, 2) := by decide +kernel
theorem dL_isStep_170 : decode cL_isStep 170 = .ok (.ishr, 1) := by decide +kernel
theorem dL_isStep_171 : decode cL_isStep 171 = .ok (.sipush 9000, 3) := by decide +kernel
theorem dL_isStep_174 : decode cL_isStep 174 = .ok (.invokestatic 15, 3) := by decide +kernel
theorem dL_isStep_177 : decode cL_isStep 177 = .ok (.goto 32, 3) := by decide +kernel
theorem dL_isStep_180 : decode cL_isStep 180 = .ok (.iload 7, 2) := by decide +kernel
theorem dL_isStep_182 : decode cL_isStep 182 = .ok (.bipush 7, 2) := by decide +kernel
theorem dL_isStep_184 : decode cL_isStep 184 = .ok (.if_icmp .ne 15, 3) := by decide +kernel
theorem dL_isStep_187 : decode cL_isStep 187 = .ok (.iload_n 3, 1) := by decide +kernel
theorem dL_isStep_188 : decode cL_isStep 188 = .ok (.bipush 7, 2) := by decide +kernel
theorem dL_isStep_190 : decode cL_isStep 190 = .ok (.ishr, 1) := by decide +kernel
theorem dL_isStep_191 : decode cL_isStep 191 = .ok (.bipush 8, 2) := by decide +kernel
theorem dL_isStep_193 : decode cL_isStep 193 = .ok (.invokestatic 15, 3) := by decide +kernel
theorem dL_isStep_196 : decode cL_isStep 196 = .ok (.goto 13, 3) := by decide +kernel
theorem dL_isStep_199 : decode cL_isStep 199 = .ok (.iload_n 3, 1) := by decide +kernel
theorem dL_isStep_200 : decode cL_isStep 200 = .ok (.bipush 7, 2) := by decide +kernel
theorem dL_isStep_202 : decode cL_isStep 202 = .ok (.ishr, 1) := by decide +kernel
theorem dL_isStep_203 : decode cL_isStep 203 = .ok (.sipush 4000, 3) := by decide +kernel
theorem dL_isStep_206 : decode cL_isStep 206 = .ok (.invokestatic 15, 3) := by decide +kernel
theorem dL_isStep_209 : decode cL_isStep 209 = .ok (.istore 8, 2) := by decide +kernel
theorem dL_isStep_211 : decode cL_isStep 211 = .ok (.aload_n 0, 1) := by decide +kernel
theorem dL_isStep_212 : decode cL_isStep 212 = .ok (.iload 7, 2) := by decide +kernel
theorem dL_isStep_214 : decode cL_isStep 214 = .ok (.iload 8, 2) := by decide +kernel
theorem dL_isStep_216 : decode cL_isStep 216 = .ok (.invokevirtual 24, 3) := by decide +kernel
theorem dL_isStep_219 : decode cL_isStep 219 = .ok (.aload_n 1, 1) := by decide +kernel
theorem dL_isStep_220 : decode cL_isStep 220 = .ok (.iload 7, 2) := by decide +kernel
theorem dL_isStep_222 : decode cL_isStep 222 = .ok (.iload 8, 2) := by decide +kernel
theorem dL_isStep_224 : decode cL_isStep 224 = .ok (.invokevirtual 24, 3) := by decide +kernel
theorem dL_isStep_227 : decode cL_isStep 227 = .ok (.if_icmp .ne 7, 3) := by decide +kernel
theorem dL_isStep_230 : decode cL_isStep 230 = .ok (.iconst 1, 1) := by decide +kernel
theorem dL_isStep_231 : decode cL_isStep 231 = .ok (.goto 4, 3) := by decide +kernel
theorem dL_isStep_234 : decode cL_isStep 234 = .ok (.iconst 0, 1) := by decide +kernel
theorem dL_isStep_235 : decode cL_isStep 235 = .ok (.ireturn, 1) := by decide +kernel
theorem dL_isStep_236 : decode cL_isStep 236 = .ok (.aload_n 0, 1) := by decide +kernel
theorem dL_isStep_237 : decode cL_isStep 237 = .ok (.iload_n 3, 1) := by decide +kernel
theorem dL_isStep_238 : decode cL_isStep 238 = .ok (.iconst 4, 1) := by decide +kernel
theorem dL_isStep_239 : decode cL_isStep 239 = .ok (.ishr, 1) := by decide +kernel
theorem dL_isStep_240 : decode cL_isStep 240 = .ok (.iconst 3, 1) := by decide +kernel
theorem dL_isStep_241 : decode cL_isStep 241 = .ok (.invokestatic 15, 3) := by decide +kernel
theorem dL_isStep_244 : decode cL_isStep 244 = .ok (.iconst 1, 1) := by decide +kernel
theorem dL_isStep_245 : decode cL_isStep 245 = .ok (.iload_n 3, 1) := by decide +kernel
theorem dL_isStep_246 : decode cL_isStep 246 = .ok (.bipush 6, 2) := by decide +kernel
theorem dL_isStep_248 : decode cL_isStep 248 = .ok (.ishr, 1) := by decide +kernel
theorem dL_isStep_249 : decode cL_isStep 249 = .ok (.sipush 9000, 3) := by decide +kernel
theorem dL_isStep_252 : decode cL_isStep 252 = .ok (.invokestatic 15, 3) := by decide +kernel
theorem dL_isStep_255 : decode cL_isStep 255 = .ok (.iadd, 1) := by decide +kernel
theorem dL_isStep_256 : decode cL_isStep 256 = .ok (.invokevirtual 27, 3) := by decide +kernel
theorem dL_isStep_259 : decode cL_isStep 259 = .ok (.aload_n 1, 1) := by decide +kernel
theorem dL_isStep_260 : decode cL_isStep 260 = .ok (.iload_n 3, 1) := by decide +kernel
theorem dL_isStep_261 : decode cL_isStep 261 = .ok (.iconst 4, 1) := by decide +kernel
theorem dL_isStep_262 : decode cL_isStep 262 = .ok (.ishr, 1) := by decide +kernel
theorem dL_isStep_263 : decode cL_isStep 263 = .ok (.iconst 3, 1) := by decide +kernel
theorem dL_isStep_264 : decode cL_isStep 264 = .ok (.invokestatic 15, 3) := by decide +kernel
theorem dL_isStep_267 : decode cL_isStep 267 = .ok (.iconst 1, 1) := by decide +kernel
theorem dL_isStep_268 : decode cL_isStep 268 = .ok (.iload_n 3, 1) := by decide +kernel
theorem dL_isStep_269 : decode cL_isStep 269 = .ok (.bipush 6, 2) := by decide +kernel
theorem dL_isStep_271 : decode cL_isStep 271 = .ok (.ishr, 1) := by decide +kernel
theorem dL_isStep_272 : decode cL_isStep 272 = .ok (.sipush 9000, 3) := by decide +kernel
theorem dL_isStep_275 : decode cL_isStep 275 = .ok (.invokestatic 15, 3) := by decide +kernel
theorem dL_isStep_278 : decode cL_isStep 278 = .ok (.iadd, 1) := by decide +kernel
theorem dL_isStep_279 : decode cL_isStep 279 = .ok (.invokevirtual 27, 3) := by decide +kernel
theorem dL_isStep_282 : decode cL_isStep 282 = .ok (.if_icmp .ne 7, 3) := by decide +kernel
theorem dL_isStep_285 : decode cL_isStep 285 = .ok (.iconst 1, 1) := by decide +kernel
theorem dL_isStep_286 : decode cL_isStep 286 = .ok (.goto 4, 3) := by decide +kernel
theorem dL_isStep_289 : decode cL_isStep 289 = .ok (.iconst 0, 1) := by decide +kernel
theorem dL_isStep_290 : decode cL_isStep 290 = .ok (.ireturn, 1) := by decide +kernel
theorem dL_isStep_291 : decode cL_isStep 291 = .ok (.aload_n 0, 1) := by decide +kernel
theorem dL_isStep_292 : decode cL_isStep 292 = .ok (.iload 6, 2) := by decide +kernel
theorem dL_isStep_294 : decode cL_isStep 294 = .ok (.invokevirtual 30, 3) := by decide +kernel
theorem dL_isStep_297 : decode cL_isStep 297 = .ok (.aload_n 1, 1) := by decide +kernel
theorem dL_isStep_298 : decode cL_isStep 298 = .ok (.iload 6, 2) := by decide +kernel
theorem dL_isStep_300 : decode cL_isStep 300 = .ok (.invokevirtual 30, 3) := by decide +kernel
theorem dL_isStep_303 : decode cL_isStep 303 = .ok (.if_icmp .ne 7, 3) := by decide +kernel
theorem dL_isStep_306 : decode cL_isStep 306 = .ok (.iconst 1, 1) := by decide +kernel
theorem dL_isStep_307 : decode cL_isStep 307 = .ok (.goto 4, 3) := by decide +kernel
theorem dL_isStep_310 : decode cL_isStep 310 = .ok (.iconst 0, 1) := by decide +kernel
theorem dL_isStep_311 : decode cL_isStep 311 = .ok (.ireturn, 1) := by decide +kernel
theorem dL_isStep_312 : decode cL_isStep 312 = .ok (.iconst 1, 1) := by decide +kernel
theorem dL_isStep_313 : decode cL_isStep 313 = .ok (.iload_n 3, 1) := by decide +kernel
theorem dL_isStep_314 : decode cL_isStep 314 = .ok (.iconst 4, 1) := by decide +kernel
theorem dL_isStep_315 : decode cL_isStep 315 = .ok (.ishr, 1) := by decide +kernel
theorem dL_isStep_316 : decode cL_isStep 316 = .ok (.bipush 7, 2) := by decide +kernel
theorem dL_isStep_318 : decode cL_isStep 318 = .ok (.invokestatic 15, 3) := by decide +kernel
theorem dL_isStep_321 : decode cL_isStep 321 = .ok (.iadd, 1) := by decide +kernel
theorem dL_isStep_322 : decode cL_isStep 322 = .ok (.istore 7, 2) := by decide +kernel
theorem dL_isStep_324 : decode cL_isStep 324 = .ok (.aload_n 0, 1) := by decide +kernel
theorem dL_isStep_325 : decode cL_isStep 325 = .ok (.iconst 0, 1) := by decide +kernel
theorem dL_isStep_326 : decode cL_isStep 326 = .ok (.invokevirtual 9, 3) := by decide +kernel
theorem dL_isStep_329 : decode cL_isStep 329 = .ok (.iload 7, 2) := by decide +kernel
theorem dL_isStep_331 : decode cL_isStep 331 = .ok (.iadd, 1) := by decide +kernel
theorem dL_isStep_332 : decode cL_isStep 332 = .ok (.sipush 150, 3) := by decide +kernel
theorem dL_isStep_335 : decode cL_isStep 335 = .ok (.if_icmp .gt 18, 3) := by decide +kernel
theorem dL_isStep_338 : decode cL_isStep 338 = .ok (.aload_n 0, 1) := by decide +kernel
theorem dL_isStep_339 : decode cL_isStep 339 = .ok (.iload 7, 2) := by decide +kernel
theorem dL_isStep_341 : decode cL_isStep 341 = .ok (.invokevirtual 33, 3) := by decide +kernel
theorem dL_isStep_344 : decode cL_isStep 344 = .ok (.aload_n 1, 1) := by decide +kernel
theorem dL_isStep_345 : decode cL_isStep 345 = .ok (.iload 7, 2) := by decide +kernel
theorem dL_isStep_347 : decode cL_isStep 347 = .ok (.invokevirtual 33, 3) := by decide +kernel
theorem dL_isStep_350 : decode cL_isStep 350 = .ok (.if_icmp .ne 7, 3) := by decide +kernel
theorem dL_isStep_353 : decode cL_isStep 353 = .ok (.iconst 1, 1) := by decide +kernel
theorem dL_isStep_354 : decode cL_isStep 354 = .ok (.goto 4, 3) := by decide +kernel
theorem dL_isStep_357 : decode cL_isStep 357 = .ok (.iconst 0, 1) := by decide +kernel
theorem dL_isStep_358 : decode cL_isStep 358 = .ok (.ireturn, 1) := by decide +kernel
theorem dL_isStep_359 : decode cL_isStep 359 = .ok (.aload_n 0, 1) := by decide +kernel
theorem dL_isStep_360 : decode cL_isStep 360 = .ok (.iload_n 3, 1) := by decide +kernel
theorem dL_isStep_361 : decode cL_isStep 361 = .ok (.bipush 12, 2) := by decide +kernel
theorem dL_isStep_363 : decode cL_isStep 363 = .ok (.ishr, 1) := by decide +kernel
theorem dL_isStep_364 : decode cL_isStep 364 = .ok (.bipush 6, 2) := by decide +kernel
theorem dL_isStep_366 : decode cL_isStep 366 = .ok (.invokestatic 15, 3) := by decide +kernel
theorem dL_isStep_369 : decode cL_isStep 369 = .ok (.iload 5, 2) := by decide +kernel
theorem dL_isStep_371 : decode cL_isStep 371 = .ok (.invokevirtual 36, 3) := by decide +kernel
theorem dL_isStep_374 : decode cL_isStep 374 = .ok (.istore 7, 2) := by decide +kernel
theorem dL_isStep_376 : decode cL_isStep 376 = .ok (.aload_n 1, 1) := by decide +kernel
theorem dL_isStep_377 : decode cL_isStep 377 = .ok (.iload_n 3, 1) := by decide +kernel
theorem dL_isStep_378 : decode cL_isStep 378 = .ok (.bipush 12, 2) := by decide +kernel
theorem dL_isStep_380 : decode cL_isStep 380 = .ok (.ishr, 1) := by decide +kernel
theorem dL_isStep_381 : decode cL_isStep 381 = .ok (.bipush 6, 2) := by decide +kernel
theorem dL_isStep_383 : decode cL_isStep 383 = .ok (.invokestatic 15, 3) := by decide +kernel
theorem dL_isStep_386 : decode cL_isStep 386 = .ok (.iload 5, 2) := by decide +kernel
theorem dL_isStep_388 : decode cL_isStep 388 = .ok (.invokevirtual 36, 3) := by decide +kernel
theorem dL_isStep_391 : decode cL_isStep 391 = .ok (.istore 8, 2) := by decide +kernel
theorem dL_isStep_393 : decode cL_isStep 393 = .ok (.iload 7, 2) := by decide +kernel
theorem dL_isStep_395 : decode cL_isStep 395 = .ok (.ifCond .ge 18, 3) := by decide +kernel
theorem dL_isStep_398 : decode cL_isStep 398 = .ok (.iload 7, 2) := by decide +kernel
theorem dL_isStep_400 : decode cL_isStep 400 = .ok (.iload 8, 2) := by decide +kernel
theorem dL_isStep_402 : decode cL_isStep 402 = .ok (.if_icmp .ne 7, 3) := by decide +kernel
theorem dL_isStep_405 : decode cL_isStep 405 = .ok (.iconst 1, 1) := by decide +kernel
theorem dL_isStep_406 : decode cL_isStep 406 = .ok (.goto 21, 3) := by decide +kernel
theorem dL_isStep_409 : decode cL_isStep 409 = .ok (.iconst 0, 1) := by decide +kernel
theorem dL_isStep_410 : decode cL_isStep 410 = .ok (.goto 17, 3) := by decide +kernel
theorem dL_isStep_413 : decode cL_isStep 413 = .ok (.iload 7, 2) := by decide +kernel
theorem dL_isStep_415 : decode cL_isStep 415 = .ok (.iload_n 2, 1) := by decide +kernel
theorem dL_isStep_416 : decode cL_isStep 416 = .ok (.iadd, 1) := by decide +kernel
theorem dL_isStep_417 : decode cL_isStep 417 = .ok (.iload 8, 2) := by decide +kernel
theorem dL_isStep_419 : decode cL_isStep 419 = .ok (.if_icmp .ne 7, 3) := by decide +kernel
theorem dL_isStep_422 : decode cL_isStep 422 = .ok (.iconst 1, 1) := by decide +kernel
theorem dL_isStep_423 : decode cL_isStep 423 = .ok (.goto 4, 3) := by decide +kernel
theorem dL_isStep_426 : decode cL_isStep 426 = .ok (.iconst 0, 1) := by decide +kernel
theorem dL_isStep_427 : decode cL_isStep 427 = .ok (.ireturn, 1) := by decide +kernel
theorem dL_isStep_428 : decode cL_isStep 428 = .ok (.aload_n 0, 1) := by decide +kernel
theorem dL_isStep_429 : decode cL_isStep 429 = .ok (.iload_n 3, 1) := by decide +kernel
theorem dL_isStep_430 : decode cL_isStep 430 = .ok (.iconst 4, 1) := by decide +kernel
theorem dL_isStep_431 : decode cL_isStep 431 = .ok (.ishr, 1) := by decide +kernel
theorem dL_isStep_432 : decode cL_isStep 432 = .ok (.bipush 6, 2) := by decide +kernel
theorem dL_isStep_434 : decode cL_isStep 434 = .ok (.invokestatic 15, 3) := by decide +kernel
theorem dL_isStep_437 : decode cL_isStep 437 = .ok (.invokevirtual 39, 3) := by decide +kernel
theorem dL_isStep_440 : decode cL_isStep 440 = .ok (.aload_n 1, 1) := by decide +kernel
theorem dL_isStep_441 : decode cL_isStep 441 = .ok (.iload_n 3, 1) := by decide +kernel
theorem dL_isStep_442 : decode cL_isStep 442 = .ok (.iconst 4, 1) := by decide +kernel
theorem dL_isStep_443 : decode cL_isStep 443 = .ok (.ishr, 1) := by decide +kernel
theorem dL_isStep_444 : decode cL_isStep 444 = .ok (.bipush 6, 2) := by decide +kernel
theorem dL_isStep_446 : decode cL_isStep 446 = .ok (.invokestatic 15, 3) := by decide +kernel
theorem dL_isStep_449 : decode cL_isStep 449 = .ok (.invokevirtual 39, 3) := by decide +kernel
theorem dL_isStep_452 : decode cL_isStep 452 = .ok (.if_icmp .ne 7, 3) := by decide +kernel
theorem dL_isStep_455 : decode cL_isStep 455 = .ok (.iconst 1, 1) := by decide +kernel
theorem dL_isStep_456 : decode cL_isStep 456 = .ok (.goto 4, 3) := by decide +kernel
theorem dL_isStep_459 : decode cL_isStep 459 = .ok (.iconst 0, 1) := by decide +kernel
theorem dL_isStep_460 : decode cL_isStep 460 = .ok (.ireturn, 1) := by decide +kernel
theorem dL_isStep_461 : decode cL_isStep 461 = .ok (.aload_n 0, 1) := by decide +kernel
theorem dL_isStep_462 : decode cL_isStep 462 = .ok (.iload 6, 2) := by decide +kernel
theorem dL_isStep_464 : decode cL_isStep 464 = .ok (.iload_n 3, 1) := by decide +kernel
theorem dL_isStep_465 : decode cL_isStep 465 = .ok (.bipush 14, 2) := by decide +kernel
theorem dL_isStep_467 : decode cL_isStep 467 = .ok (.ishr, 1) := by decide +kernel
theorem dL_isStep_468 : decode cL_isStep 468 = .ok (.iconst 4, 1) := by decide +kernel
theorem dL_isStep_469 : decode cL_isStep 469 = .ok (.invokestatic 15, 3) := by decide +kernel
theorem dL_isStep_472 : decode cL_isStep 472 = .ok (.invokevirtual 42, 3) := by decide +kernel
theorem dL_isStep_475 : decode cL_isStep 475 = .ok (.aload_n 1, 1) := by decide +kernel
theorem dL_isStep_476 : decode cL_isStep 476 = .ok (.iload 6, 2) := by decide +kernel
theorem dL_isStep_478 : decode cL_isStep 478 = .ok (.iload_n 3, 1) := by decide +kernel
theorem dL_isStep_479 : decode cL_isStep 479 = .ok (.bipush 14, 2) := by decide +kernel
theorem dL_isStep_481 : decode cL_isStep 481 = .ok (.ishr, 1) := by decide +kernel
theorem dL_isStep_482 : decode cL_isStep 482 = .ok (.iconst 4, 1) := by decide +kernel
theorem dL_isStep_483 : decode cL_isStep 483 = .ok (.invokestatic 15, 3) := by decide +kernel
theorem dL_isStep_486 : decode cL_isStep 486 = .ok (.invokevirtual 42, 3) := by decide +kernel
theorem dL_isStep_489 : decode cL_isStep 489 = .ok (.if_icmp .ne 7, 3) := by decide +kernel
theorem dL_isStep_492 : decode cL_isStep 492 = .ok (.iconst 1, 1) := by decide +kernel
theorem dL_isStep_493 : decode cL_isStep 493 = .ok (.goto 4, 3) := by decide +kernel
theorem dL_isStep_496 : decode cL_isStep 496 = .ok (.iconst 0, 1) := by decide +kernel
theorem dL_isStep_497 : decode cL_isStep 497 = .ok (.ireturn, 1) := by decide +kernel
theorem dL_isStep_498 : decode cL_isStep 498 = .ok (.aload_n 0, 1) := by decide +kernel
theorem dL_isStep_499 : decode cL_isStep 499 = .ok (.iload 5, 2) := by decide +kernel
theorem dL_isStep_501 : decode cL_isStep 501 = .ok (.invokevirtual 45, 3) := by decide +kernel
theorem dL_isStep_504 : decode cL_isStep 504 = .ok (.aload_n 1, 1) := by decide +kernel
theorem dL_isStep_505 : decode cL_isStep 505 = .ok (.iload 5, 2) := by decide +kernel
theorem dL_isStep_507 : decode cL_isStep 507 = .ok (.invokevirtual 45, 3) := by decide +kernel
theorem dL_isStep_510 : decode cL_isStep 510 = .ok (.if_icmp .ne 7, 3) := by decide +kernel
theorem dL_isStep_513 : decode cL_isStep 513 = .ok (.iconst 1, 1) := by decide +kernel
theorem dL_isStep_514 : decode cL_isStep 514 = .ok (.goto 4, 3) := by decide +kernel
theorem dL_isStep_517 : decode cL_isStep 517 = .ok (.iconst 0, 1) := by decide +kernel
theorem dL_isStep_518 : decode cL_isStep 518 = .ok (.ireturn, 1) := by decide +kernel
theorem dL_isStep_519 : decode cL_isStep 519 = .ok (.iload_n 3, 1) := by decide +kernel
theorem dL_isStep_520 : decode cL_isStep 520 = .ok (.bipush 7, 2) := by decide +kernel
theorem dL_isStep_522 : decode cL_isStep 522 = .ok (.ishr, 1) := by decide +kernel
theorem dL_isStep_523 : decode cL_isStep 523 = .ok (.bipush 22, 2) := by decide +kernel
theorem dL_isStep_525 : decode cL_isStep 525 = .ok (.invokestatic 15, 3) := by decide +kernel
theorem dL_isStep_528 : decode cL_isStep 528 = .ok (.istore 7, 2) := by decide +kernel
theorem dL_isStep_530 : decode cL_isStep 530 = .ok (.bipush 100, 2) := by decide +kernel
theorem dL_isStep_532 : decode cL_isStep 532 = .ok (.iload 7, 2) := by decide +kernel
theorem dL_isStep_534 : decode cL_isStep 534 = .ok (.imul, 1) := by decide +kernel
theorem dL_isStep_535 : decode cL_isStep 535 = .ok (.iload 7, 2) := by decide +kernel
theorem dL_isStep_537 : decode cL_isStep 537 = .ok (.iadd, 1) := by decide +kernel
theorem dL_isStep_538 : decode cL_isStep 538 = .ok (.iconst 1, 1) := by decide +kernel
theorem dL_isStep_539 : decode cL_isStep 539 = .ok (.iadd, 1) := by decide +kernel
theorem dL_isStep_540 : decode cL_isStep 540 = .ok (.iload_n 3, 1) := by decide +kernel
theorem dL_isStep_541 : decode cL_isStep 541 = .ok (.bipush 12, 2) := by decide +kernel
theorem dL_isStep_543 : decode cL_isStep 543 = .ok (.ishr, 1) := by decide +kernel
theorem dL_isStep_544 : decode cL_isStep 544 = .ok (.iconst 3, 1) := by decide +kernel
theorem dL_isStep_545 : decode cL_isStep 545 = .ok (.bipush 24, 2) := by decide +kernel
theorem dL_isStep_547 : decode cL_isStep 547 = .ok (.iload 7, 2) := by decide +kernel
theorem dL_isStep_549 : decode cL_isStep 549 = .ok (.isub, 1) := by decide +kernel
theorem dL_isStep_550 : decode cL_isStep 550 = .ok (.if_icmp .ge 7, 3) := by decide +kernel
theorem dL_isStep_553 : decode cL_isStep 553 = .ok (.iconst 3, 1) := by decide +kernel
theorem dL_isStep_554 : decode cL_isStep 554 = .ok (.goto 8, 3) := by decide +kernel
theorem dL_isStep_557 : decode cL_isStep 557 = .ok (.bipush 24, 2) := by decide +kernel
theorem dL_isStep_559 : decode cL_isStep 559 = .ok (.iload 7, 2) := by decide +kernel
theorem dL_isStep_561 : decode cL_isStep 561 = .ok (.isub, 1) := by decide +kernel
theorem dL_isStep_562 : decode cL_isStep 562 = .ok (.invokestatic 15, 3) := by decide +kernel
theorem dL_isStep_565 : decode cL_isStep 565 = .ok (.iadd, 1) := by decide +kernel
theorem dL_isStep_566 : decode cL_isStep 566 = .ok (.istore 8, 2) := by decide +kernel
theorem dL_isStep_568 : decode cL_isStep 568 = .ok (.aload_n 0, 1) := by decide +kernel
theorem dL_isStep_569 : decode cL_isStep 569 = .ok (.iconst 0, 1) := by decide +kernel
theorem dL_isStep_570 : decode cL_isStep 570 = .ok (.invokevirtual 9, 3) := by decide +kernel
theorem dL_isStep_573 : decode cL_isStep 573 = .ok (.iload_n 3, 1) := by decide +kernel
theorem dL_isStep_574 : decode cL_isStep 574 = .ok (.bipush 14, 2) := by decide +kernel
theorem dL_isStep_576 : decode cL_isStep 576 = .ok (.ishr, 1) := by decide +kernel
theorem dL_isStep_577 : decode cL_isStep 577 = .ok (.bipush 10, 2) := by decide +kernel
theorem dL_isStep_579 : decode cL_isStep 579 = .ok (.invokestatic 15, 3) := by decide +kernel
theorem dL_isStep_582 : decode cL_isStep 582 = .ok (.iadd, 1) := by decide +kernel
theorem dL_isStep_583 : decode cL_isStep 583 = .ok (.istore 9, 2) := by decide +kernel
theorem dL_isStep_585 : decode cL_isStep 585 = .ok (.iconst 1, 1) := by decide +kernel
theorem dL_isStep_586 : decode cL_isStep 586 = .ok (.iload_n 3, 1) := by decide +kernel
theorem dL_isStep_587 : decode cL_isStep 587 = .ok (.bipush 18, 2) := by decide +kernel
theorem dL_isStep_589 : decode cL_isStep 589 = .ok (.ishr, 1) := by decide +kernel
theorem dL_isStep_590 : decode cL_isStep 590 = .ok (.bipush 8, 2) := by decide +kernel
theorem dL_isStep_592 : decode cL_isStep 592 = .ok (.invokestatic 15, 3) := by decide +kernel
theorem dL_isStep_595 : decode cL_isStep 595 = .ok (.iadd, 1) := by decide +kernel
theorem dL_isStep_596 : decode cL_isStep 596 = .ok (.istore 10, 2) := by decide +kernel
theorem dL_isStep_598 : decode cL_isStep 598 = .ok (.aload_n 0, 1) := by decide +kernel
theorem dL_isStep_599 : decode cL_isStep 599 = .ok (.iload_n 3, 1) := by decide +kernel
theorem dL_isStep_600 : decode cL_isStep 600 = .ok (.iconst 4, 1) := by decide +kernel
theorem dL_isStep_601 : decode cL_isStep 601 = .ok (.ishr, 1) := by decide +kernel
theorem dL_isStep_602 : decode cL_isStep 602 = .ok (.iconst 3, 1) := by decide +kernel
theorem dL_isStep_603 : decode cL_isStep 603 = .ok (.invokestatic 15, 3) := by decide +kernel
theorem dL_isStep_606 : decode cL_isStep 606 = .ok (.iconst 1, 1) := by decide +kernel
theorem dL_isStep_607 : decode cL_isStep 607 = .ok (.iload_n 3, 1) := by decide +kernel
theorem dL_isStep_608 : decode cL_isStep 608 = .ok (.iconst 5, 1) := by decide +kernel
theorem dL_isStep_609 : decode cL_isStep 609 = .ok (.ishr, 1) := by decide +kernel
theorem dL_isStep_610 : decode cL_isStep 610 = .ok (.bipush 7, 2) := by decide +kernel
theorem dL_isStep_612 : decode cL_isStep 612 = .ok (.invokestatic 15, 3) := by decide +kernel
theorem dL_isStep_615 : decode cL_isStep 615 = .ok (.iadd, 1) := by decide +kernel
theorem dL_isStep_616 : decode cL_isStep 616 = .ok (.iload 9, 2) := by decide +kernel
theorem dL_isStep_618 : decode cL_isStep 618 = .ok (.iload 8, 2) := by decide +kernel
theorem dL_isStep_620 : decode cL_isStep 620 = .ok (.iload 10, 2) := by decide +kernel
theorem dL_isStep_622 : decode cL_isStep 622 = .ok (.iconst 1, 1) := by decide +kernel
theorem dL_isStep_623 : decode cL_isStep 623 = .ok (.iload_n 3, 1) := by decide +kernel
theorem dL_isStep_624 : decode cL_isStep 624 = .ok (.bipush 21, 2) := by decide +kernel
theorem dL_isStep_626 : decode cL_isStep 626 = .ok (.ishr, 1) := by decide +kernel
theorem dL_isStep_627 : decode cL_isStep 627 = .ok (.bipush 9, 2) := by decide +kernel
theorem dL_isStep_629 : decode cL_isStep 629 = .ok (.invokestatic 15, 3) := by decide +kernel
theorem dL_isStep_632 : decode cL_isStep 632 = .ok (.iadd, 1) := by decide +kernel
theorem dL_isStep_633 : decode cL_isStep 633 = .ok (.invokevirtual 48, 3) := by decide +kernel
theorem dL_isStep_636 : decode cL_isStep 636 = .ok (.aload_n 1, 1) := by decide +kernel
theorem dL_isStep_637 : decode cL_isStep 637 = .ok (.iload_n 3, 1) := by decide +kernel
theorem dL_isStep_638 : decode cL_isStep 638 = .ok (.iconst 4, 1) := by decide +kernel
theorem dL_isStep_639 : decode cL_isStep 639 = .ok (.ishr, 1) := by decide +kernel
theorem dL_isStep_640 : decode cL_isStep 640 = .ok (.iconst 3, 1) := by decide +kernel
theorem dL_isStep_641 : decode cL_isStep 641 = .ok (.invokestatic 15, 3) := by decide +kernel
theorem dL_isStep_644 : decode cL_isStep 644 = .ok (.iconst 1, 1) := by decide +kernel
theorem dL_isStep_645 : decode cL_isStep 645 = .ok (.iload_n 3, 1) := by decide +kernel
theorem dL_isStep_646 : decode cL_isStep 646 = .ok (.iconst 5, 1) := by decide +kernel
theorem dL_isStep_647 : decode cL_isStep 647 = .ok (.ishr, 1) := by decide +kernel
theorem dL_isStep_648 : decode cL_isStep 648 = .ok (.bipush 7, 2) := by decide +kernel
theorem dL_isStep_650 : decode cL_isStep 650 = .ok (.invokestatic 15, 3) := by decide +kernel
theorem dL_isStep_653 : decode cL_isStep 653 = .ok (.iadd, 1) := by decide +kernel
theorem dL_isStep_654 : decode cL_isStep 654 = .ok (.iload 9, 2) := by decide +kernel
theorem dL_isStep_656 : decode cL_isStep 656 = .ok (.iload_n 2, 1) := by decide +kernel
theorem dL_isStep_657 : decode cL_isStep 657 = .ok (.iadd, 1) := by decide +kernel
theorem dL_isStep_658 : decode cL_isStep 658 = .ok (.iload 8, 2) := by decide +kernel
theorem dL_isStep_660 : decode cL_isStep 660 = .ok (.iload 10, 2) := by decide +kernel
theorem dL_isStep_662 : decode cL_isStep 662 = .ok (.iconst 1, 1) := by decide +kernel
theorem dL_isStep_663 : decode cL_isStep 663 = .ok (.iload_n 3, 1) := by decide +kernel
theorem dL_isStep_664 : decode cL_isStep 664 = .ok (.bipush 21, 2) := by decide +kernel
theorem dL_isStep_666 : decode cL_isStep 666 = .ok (.ishr, 1) := by decide +kernel
theorem dL_isStep_667 : decode cL_isStep 667 = .ok (.bipush 9, 2) := by decide +kernel
theorem dL_isStep_669 : decode cL_isStep 669 = .ok (.invokestatic 15, 3) := by decide +kernel
theorem dL_isStep_672 : decode cL_isStep 672 = .ok (.iadd, 1) := by decide +kernel
theorem dL_isStep_673 : decode cL_isStep 673 = .ok (.invokevirtual 48, 3) := by decide +kernel
theorem dL_isStep_676 : decode cL_isStep 676 = .ok (.if_icmp .ne 18, 3) := by decide +kernel
theorem dL_isStep_679 : decode cL_isStep 679 = .ok (.aload_n 0, 1) := by decide +kernel
theorem dL_isStep_680 : decode cL_isStep 680 = .ok (.invokevirtual 52, 3) := by decide +kernel
theorem dL_isStep_683 : decode cL_isStep 683 = .ok (.aload_n 1, 1) := by decide +kernel
theorem dL_isStep_684 : decode cL_isStep 684 = .ok (.invokevirtual 52, 3) := by decide +kernel
theorem dL_isStep_687 : decode cL_isStep 687 = .ok (.if_icmp .ne 7, 3) := by decide +kernel
theorem dL_isStep_690 : decode cL_isStep 690 = .ok (.iconst 1, 1) := by decide +kernel
theorem dL_isStep_691 : decode cL_isStep 691 = .ok (.goto 4, 3) := by decide +kernel
theorem dL_isStep_694 : decode cL_isStep 694 = .ok (.iconst 0, 1) := by decide +kernel
theorem dL_isStep_695 : decode cL_isStep 695 = .ok (.ireturn, 1) := by decide +kernel
set_option maxRecDepth 20000 in
theorem ggL_areAlike_X7_count : GoodIn wsL_areAlike wsX7_count := goodIn_r _ [5, 6, 7, 8, 9, 10, 11, 12, 13, 14, 15, 16, 17, 18, 19, 20, 21, 22, 23, 24, 25, 26, 27, 28, 29, 30, 31, 32, 33, 34, 35, 36, 37, 38, 39, 40, 41, 42, 43, 44, 45, 46, 47, 48, 49, 50, 51, 52, 53, 54, 55, 56, 57, 58, 59, 60, 61, 62, 63, 64, 65, 66, 67, 4, 68, 69, 70, 71, 161, 162, 163, 164, 165, 166, 167, 168, 169, 170, 171, 172, 173, 174, 175, 176, 177, 178, 179, 180, 181, 182, 183, 184, 185, 186, 187, 188, 189, 190, 191, 192, 193, 194, 195, 196, 197, 198] (by decide +kernel) (by decide +kernel)
set_option maxRecDepth 20000 in
theorem gL_areAlike_X7_count : GoodIn wsL_areAlike (wsV RL 9 RX7 yX7_count wsX7_count) := goodIn_app (goodIn_of _ (by decide +kernel)) ggL_areAlike_X7_count
set_option maxRecDepth 20000 in
theorem ggL_areAlike_X7_hirer : GoodIn wsL_areAlike wsX7_hirer := goodIn_r _ [75, 6, 71, 76, 77, 78, 79, 80, 17, 81, 82, 83, 84, 85, 86, 19, 87, 88, 89, 90, 91, 92, 93, 94, 58, 95, 96, 60, 97, 64, 23, 24, 25, 26, 27, 28, 98, 99, 100, 101, 102, 103, 30, 31, 32, 33, 34, 104, 105, 106, 107, 108, 161, 162, 163, 164, 165, 166, 167, 168, 169, 170, 171, 172, 173, 174, 175, 181, 182, 183, 184, 185, 186, 187, 188, 189, 190, 191, 192, 193, 194, 195, 196, 197, 198] (by decide +kernel) (by decide +kernel)
set_option maxRecDepth 20000 in
theorem gL_areAlike_X7_hirer : GoodIn wsL_areAlike (wsV RL 56 RX7 yX7_hirer wsX7_hirer) := goodIn_app (goodIn_of _ (by decide +kernel)) ggL_areAlike_X7_hirer
set_option maxRecDepth 20000 in
theorem ggL_areAlike_X7_hireInfo : GoodIn wsL_areAlike wsX7_hireInfo := goodIn_r _ [112, 6, 71, 113, 114, 115, 17, 116, 117, 19, 29, 30, 31, 32, 33, 34, 118, 119, 120, 58, 121, 122, 61, 63, 62, 96, 123, 124, 125, 60, 97, 126, 127, 128, 129, 130, 4, 131, 132, 93, 94, 95, 64, 23, 24, 25, 26, 27, 28, 161, 162, 163, 164, 165, 166, 167, 168, 169, 170, 171, 172, 173, 174, 175, 196, 197, 198, 181, 182, 183, 184, 185, 186, 187, 188, 189, 190, 191, 192, 193, 194, 195] (by decide +kernel) (by decide +kernel)
set_option maxRecDepth 20000 in
theorem gL_areAlike_X7_hireInfo : GoodIn wsL_areAlike (wsV RL 21 RX7 yX7_hireInfo wsX7_hireInfo) := goodIn_app (goodIn_of _ (by decide +kernel)) ggL_areAlike_X7_hireInfo
set_option maxRecDepth 20000 in
theorem ggL_areAlike_X7_session : GoodIn wsL_areAlike wsX7_session := goodIn_r _ [136, 6, 71, 7, 137, 138, 139, 140, 17, 141, 20, 142, 114, 115, 116, 117, 19, 143, 144, 145, 58, 146, 123, 124, 147, 148, 149, 150, 60, 97, 151, 152, 153, 154, 96, 125, 155, 156, 157, 158, 159, 160, 161, 162, 163, 164, 165, 166, 167, 168, 169, 170, 171, 172, 173, 174, 175, 181, 182, 183, 184, 185, 186, 187, 188, 189, 190, 191, 192, 193, 194, 195] (by decide +kernel) (by decide +kernel)
set_option maxRecDepth 20000 in
theorem gL_areAlike_X7_session : GoodIn wsL_areAlike (wsV RL 59 RX7 yX7_session wsX7_session) := goodIn_app (goodIn_of _ (by decide +kernel)) ggL_areAlike_X7_session
theorem dL_areAlike_0 : decode cL_areAlike 0 = .ok (.aload_n 0, 1) := by decide +kernel
theorem dL_areAlike_1 : decode cL_areAlike 1 = .ok (.iconst 0, 1) := by decide +kernel
theorem dL_areAlike_2 : decode cL_areAlike 2 = .ok (.invokevirtual 9, 3) := by decide +kernel
theorem dL_areAlike_5 : decode cL_areAlike 5 = .ok (.iload_n 2, 1) := by decide +kernel
theorem dL_areAlike_6 : decode cL_areAlike 6 = .ok (.iadd, 1) := by decide +kernel
theorem dL_areAlike_7 : decode cL_areAlike 7 = .ok (.aload_n 1, 1) := by decide +kernel
theorem dL_areAlike_8 : decode cL_areAlike 8 = .ok (.iconst 0, 1) := by decide +kernel
theorem dL_areAlike_9 : decode cL_areAlike 9 = .ok (.invokevirtual 9, 3) := by decide +kernel
theorem dL_areAlike_12 : decode cL_areAlike 12 = .ok (.if_icmp .ne 7, 3) := by decide +kernel
theorem dL_areAlike_15 : decode cL_areAlike 15 = .ok (.iconst 1, 1) := by decide +kernel
theorem dL_areAlike_16 : decode cL_areAlike 16 = .ok (.goto 4, 3) := by decide +kernel
theorem dL_areAlike_19 : decode cL_areAlike 19 = .ok (.iconst 0, 1) := by decide +kernel
theorem dL_areAlike_20 : decode cL_areAlike 20 = .ok (.istore_n 3, 1) := by decide +kernel
theorem dL_areAlike_21 : decode cL_areAlike 21 = .ok (.iconst 1, 1) := by decide +kernel
theorem dL_areAlike_22 : decode cL_areAlike 22 = .ok (.istore 4, 2) := by decide +kernel
theorem dL_areAlike_24 : decode cL_areAlike 24 = .ok (.iload 4, 2) := by decide +kernel
theorem dL_areAlike_26 : decode cL_areAlike 26 = .ok (.bipush 29, 2) := by decide +kernel
theorem dL_areAlike_28 : decode cL_areAlike 28 = .ok (.if_icmp .ge 41, 3) := by decide +kernel
theorem dL_areAlike_31 : decode cL_areAlike 31 = .ok (.iload_n 3, 1) := by decide +kernel
theorem dL_areAlike_32 : decode cL_areAlike 32 = .ok (.ifCond .eq 29, 3) := by decide +kernel
theorem dL_areAlike_35 : decode cL_areAlike 35 = .ok (.iload 4, 2) := by decide +kernel
theorem dL_areAlike_37 : decode cL_areAlike 37 = .ok (.bipush 7, 2) := by decide +kernel
theorem dL_areAlike_39 : decode cL_areAlike 39 = .ok (.if_icmp .eq 18, 3) := by decide +kernel
theorem dL_areAlike_42 : decode cL_areAlike 42 = .ok (.aload_n 0, 1) := by decide +kernel
theorem dL_areAlike_43 : decode cL_areAlike 43 = .ok (.iload 4, 2) := by decide +kernel
theorem dL_areAlike_45 : decode cL_areAlike 45 = .ok (.invokevirtual 9, 3) := by decide +kernel
theorem dL_areAlike_48 : decode cL_areAlike 48 = .ok (.aload_n 1, 1) := by decide +kernel
theorem dL_areAlike_49 : decode cL_areAlike 49 = .ok (.iload 4, 2) := by decide +kernel
theorem dL_areAlike_51 : decode cL_areAlike 51 = .ok (.invokevirtual 9, 3) := by decide +kernel
theorem dL_areAlike_54 : decode cL_areAlike 54 = .ok (.if_icmp .ne 7, 3) := by decide +kernel
theorem dL_areAlike_57 : decode cL_areAlike 57 = .ok (.iconst 1, 1) := by decide +kernel
theorem dL_areAlike_58 : decode cL_areAlike 58 = .ok (.goto 4, 3) := by decide +kernel
theorem dL_areAlike_61 : decode cL_areAlike 61 = .ok (.iconst 0, 1) := by decide +kernel
theorem dL_areAlike_62 : decode cL_areAlike 62 = .ok (.istore_n 3, 1) := by decide +kernel
theorem dL_areAlike_63 : decode cL_areAlike 63 = .ok (.iinc 4 1, 3) := by decide +kernel
theorem dL_areAlike_66 : decode cL_areAlike 66 = .ok (.goto (-42), 3) := by decide +kernel
theorem dL_areAlike_69 : decode cL_areAlike 69 = .ok (.iconst 0, 1) := by decide +kernel
theorem dL_areAlike_70 : decode cL_areAlike 70 = .ok (.istore 4, 2) := by decide +kernel
theorem dL_areAlike_72 : decode cL_areAlike 72 = .ok (.iload 4, 2) := by decide +kernel
theorem dL_areAlike_74 : decode cL_areAlike 74 = .ok (.iconst 3, 1) := by decide +kernel
theorem dL_areAlike_75 : decode cL_areAlike 75 = .ok (.if_icmp .ge 54, 3) := by decide +kernel
theorem dL_areAlike_78 : decode cL_areAlike 78 = .ok (.iconst 0, 1) := by decide +kernel
theorem dL_areAlike_79 : decode cL_areAlike 79 = .ok (.istore 5, 2) := by decide +kernel
theorem dL_areAlike_81 : decode cL_areAlike 81 = .ok (.iload 5, 2) := by decide +kernel
theorem dL_areAlike_83 : decode cL_areAlike 83 = .ok (.bipush 7, 2) := by decide +kernel
theorem dL_areAlike_85 : decode cL_areAlike 85 = .ok (.if_icmp .ge 38, 3) := by decide +kernel
theorem dL_areAlike_88 : decode cL_areAlike 88 = .ok (.iload_n 3, 1) := by decide +kernel
theorem dL_areAlike_89 : decode cL_areAlike 89 = .ok (.ifCond .eq 26, 3) := by decide +kernel
theorem dL_areAlike_92 : decode cL_areAlike 92 = .ok (.aload_n 0, 1) := by decide +kernel
theorem dL_areAlike_93 : decode cL_areAlike 93 = .ok (.iload 4, 2) := by decide +kernel
theorem dL_areAlike_95 : decode cL_areAlike 95 = .ok (.iload 5, 2) := by decide +kernel
theorem dL_areAlike_97 : decode cL_areAlike 97 = .ok (.invokevirtual 56, 3) := by decide +kernel
theorem dL_areAlike_100 : decode cL_areAlike 100 = .ok (.aload_n 1, 1) := by decide +kernel
theorem dL_areAlike_101 : decode cL_areAlike 101 = .ok (.iload 4, 2) := by decide +kernel
theorem dL_areAlike_103 : decode cL_areAlike 103 = .ok (.iload 5, 2) := by decide +kernel
theorem dL_areAlike_105 : decode cL_areAlike 105 = .ok (.invokevirtual 56, 3) := by decide +kernel
theorem dL_areAlike_108 : decode cL_areAlike 108 = .ok (.if_icmp .ne 7, 3) := by decide +kernel
theorem dL_areAlike_111 : decode cL_areAlike 111 = .ok (.iconst 1, 1) := by decide +kernel
theorem dL_areAlike_112 : decode cL_areAlike 112 = .ok (.goto 4, 3) := by decide +kernel
theorem dL_areAlike_115 : decode cL_areAlike 115 = .ok (.iconst 0, 1) := by decide +kernel
theorem dL_areAlike_116 : decode cL_areAlike 116 = .ok (.istore_n 3, 1) := by decide +kernel
theorem dL_areAlike_117 : decode cL_areAlike 117 = .ok (.iinc 5 1, 3) := by decide +kernel
theorem dL_areAlike_120 : decode cL_areAlike 120 = .ok (.goto (-39), 3) := by decide +kernel
theorem dL_areAlike_123 : decode cL_areAlike 123 = .ok (.iinc 4 1, 3) := by decide +kernel
theorem dL_areAlike_126 : decode cL_areAlike 126 = .ok (.goto (-54), 3) := by decide +kernel
theorem dL_areAlike_129 : decode cL_areAlike 129 = .ok (.iconst 0, 1) := by decide +kernel
theorem dL_areAlike_130 : decode cL_areAlike 130 = .ok (.istore 4, 2) := by decide +kernel
theorem dL_areAlike_132 : decode cL_areAlike 132 = .ok (.iload 4, 2) := by decide +kernel
theorem dL_areAlike_134 : decode cL_areAlike 134 = .ok (.aload_n 0, 1) := by decide +kernel
theorem dL_areAlike_135 : decode cL_areAlike 135 = .ok (.iconst 2, 1) := by decide +kernel
theorem dL_areAlike_136 : decode cL_areAlike 136 = .ok (.invokevirtual 9, 3) := by decide +kernel
theorem dL_areAlike_139 : decode cL_areAlike 139 = .ok (.if_icmp .ge 238, 3) := by decide +kernel
theorem dL_areAlike_142 : decode cL_areAlike 142 = .ok (.iload_n 3, 1) := by decide +kernel
theorem dL_areAlike_143 : decode cL_areAlike 143 = .ok (.ifCond .eq 234, 3) := by decide +kernel
theorem dL_areAlike_146 : decode cL_areAlike 146 = .ok (.iconst 0, 1) := by decide +kernel
theorem dL_areAlike_147 : decode cL_areAlike 147 = .ok (.istore 5, 2) := by decide +kernel
theorem dL_areAlike_149 : decode cL_areAlike 149 = .ok (.iload 5, 2) := by decide +kernel
theorem dL_areAlike_151 : decode cL_areAlike 151 = .ok (.bipush 16, 2) := by decide +kernel
theorem dL_areAlike_153 : decode cL_areAlike 153 = .ok (.if_icmp .ge 50, 3) := by decide +kernel
theorem dL_areAlike_156 : decode cL_areAlike 156 = .ok (.iload_n 3, 1) := by decide +kernel
theorem dL_areAlike_157 : decode cL_areAlike 157 = .ok (.ifCond .eq 38, 3) := by decide +kernel
theorem dL_areAlike_160 : decode cL_areAlike 160 = .ok (.aload_n 0, 1) := by decide +kernel
theorem dL_areAlike_161 : decode cL_areAlike 161 = .ok (.iload 4, 2) := by decide +kernel
theorem dL_areAlike_163 : decode cL_areAlike 163 = .ok (.iload 5, 2) := by decide +kernel
theorem dL_areAlike_165 : decode cL_areAlike 165 = .ok (.invokevirtual 21, 3) := by decide +kernel
theorem dL_areAlike_168 : decode cL_areAlike 168 = .ok (.iload 5, 2) := by decide +kernel
theorem dL_areAlike_170 : decode cL_areAlike 170 = .ok (.iconst 5, 1) := by decide +kernel
theorem dL_areAlike_171 : decode cL_areAlike 171 = .ok (.if_icmp .ne 7, 3) := by decide +kernel
theorem dL_areAlike_174 : decode cL_areAlike 174 = .ok (.iload_n 2, 1) := by decide +kernel
theorem dL_areAlike_175 : decode cL_areAlike 175 = .ok (.goto 4, 3) := by decide +kernel
theorem dL_areAlike_178 : decode cL_areAlike 178 = .ok (.iconst 0, 1) := by decide +kernel
theorem dL_areAlike_179 : decode cL_areAlike 179 = .ok (.iadd, 1) := by decide +kernel
theorem dL_areAlike_180 : decode cL_areAlike 180 = .ok (.aload_n 1, 1) := by decide +kernel
theorem dL_areAlike_181 : decode cL_areAlike 181 = .ok (.iload 4, 2) := by decide +kernel
theorem dL_areAlike_183 : decode cL_areAlike 183 = .ok (.iload 5, 2) := by decide +kernel
theorem dL_areAlike_185 : decode cL_areAlike 185 = .ok (.invokevirtual 21, 3) := by decide +kernel
theorem dL_areAlike_188 : decode cL_areAlike 188 = .ok (.if_icmp .ne 7, 3) := by decide +kernel
theorem dL_areAlike_191 : decode cL_areAlike 191 = .ok (.iconst 1, 1) := by decide +kernel
theorem dL_areAlike_192 : decode cL_areAlike 192 = .ok (.goto 4, 3) := by decide +kernel
theorem dL_areAlike_195 : decode cL_areAlike 195 = .ok (.iconst 0, 1) := by decide +kernel
theorem dL_areAlike_196 : decode cL_areAlike 196 = .ok (.istore_n 3, 1) := by decide +kernel
theorem dL_areAlike_197 : decode cL_areAlike 197 = .ok (.iinc 5 1, 3) := by decide +kernel
theorem dL_areAlike_200 : decode cL_areAlike 200 = .ok (.goto (-51), 3) := by decide +kernel
theorem dL_areAlike_203 : decode cL_areAlike 203 = .ok (.iconst 0, 1) := by decide +kernel
theorem dL_areAlike_204 : decode cL_areAlike 204 = .ok (.istore 5, 2) := by decide +kernel
theorem dL_areAlike_206 : decode cL_areAlike 206 = .ok (.iconst 0, 1) := by decide +kernel
theorem dL_areAlike_207 : decode cL_areAlike 207 = .ok (.istore 6, 2) := by decide +kernel
theorem dL_areAlike_209 : decode cL_areAlike 209 = .ok (.iload 6, 2) := by decide +kernel
theorem dL_areAlike_211 : decode cL_areAlike 211 = .ok (.aload_n 0, 1) := by decide +kernel
theorem dL_areAlike_212 : decode cL_areAlike 212 = .ok (.iload 4, 2) := by decide +kernel
theorem dL_areAlike_214 : decode cL_areAlike 214 = .ok (.iconst 4, 1) := by decide +kernel
theorem dL_areAlike_215 : decode cL_areAlike 215 = .ok (.invokevirtual 21, 3) := by decide +kernel
theorem dL_areAlike_218 : decode cL_areAlike 218 = .ok (.if_icmp .ge 94, 3) := by decide +kernel
theorem dL_areAlike_221 : decode cL_areAlike 221 = .ok (.bipush 20, 2) := by decide +kernel
theorem dL_areAlike_223 : decode cL_areAlike 223 = .ok (.iload 4, 2) := by decide +kernel
theorem dL_areAlike_225 : decode cL_areAlike 225 = .ok (.imul, 1) := by decide +kernel
theorem dL_areAlike_226 : decode cL_areAlike 226 = .ok (.iload 6, 2) := by decide +kernel
theorem dL_areAlike_228 : decode cL_areAlike 228 = .ok (.iadd, 1) := by decide +kernel
theorem dL_areAlike_229 : decode cL_areAlike 229 = .ok (.istore 7, 2) := by decide +kernel
theorem dL_areAlike_231 : decode cL_areAlike 231 = .ok (.iload 5, 2) := by decide +kernel
theorem dL_areAlike_233 : decode cL_areAlike 233 = .ok (.aload_n 0, 1) := by decide +kernel
theorem dL_areAlike_234 : decode cL_areAlike 234 = .ok (.iload 7, 2) := by decide +kernel
theorem dL_areAlike_236 : decode cL_areAlike 236 = .ok (.iconst 2, 1) := by decide +kernel
theorem dL_areAlike_237 : decode cL_areAlike 237 = .ok (.invokevirtual 59, 3) := by decide +kernel
theorem dL_areAlike_240 : decode cL_areAlike 240 = .ok (.iadd, 1) := by decide +kernel
theorem dL_areAlike_241 : decode cL_areAlike 241 = .ok (.istore 5, 2) := by decide +kernel
theorem dL_areAlike_243 : decode cL_areAlike 243 = .ok (.iload_n 3, 1) := by decide +kernel
theorem dL_areAlike_244 : decode cL_areAlike 244 = .ok (.ifCond .eq 60, 3) := by decide +kernel
theorem dL_areAlike_247 : decode cL_areAlike 247 = .ok (.aload_n 0, 1) := by decide +kernel
theorem dL_areAlike_248 : decode cL_areAlike 248 = .ok (.iload 7, 2) := by decide +kernel
theorem dL_areAlike_250 : decode cL_areAlike 250 = .ok (.iconst 0, 1) := by decide +kernel
theorem dL_areAlike_251 : decode cL_areAlike 251 = .ok (.invokevirtual 59, 3) := by decide +kernel
theorem dL_areAlike_254 : decode cL_areAlike 254 = .ok (.iload_n 2, 1) := by decide +kernel
theorem dL_areAlike_255 : decode cL_areAlike 255 = .ok (.iadd, 1) := by decide +kernel
theorem dL_areAlike_256 : decode cL_areAlike 256 = .ok (.aload_n 1, 1) := by decide +kernel
theorem dL_areAlike_257 : decode cL_areAlike 257 = .ok (.iload 7, 2) := by decide +kernel
theorem dL_areAlike_259 : decode cL_areAlike 259 = .ok (.iconst 0, 1) := by decide +kernel
theorem dL_areAlike_260 : decode cL_areAlike 260 = .ok (.invokevirtual 59, 3) := by decide +kernel
theorem dL_areAlike_263 : decode cL_areAlike 263 = .ok (.if_icmp .ne 41, 3) := by decide +kernel
theorem dL_areAlike_266 : decode cL_areAlike 266 = .ok (.aload_n 0, 1) := by decide +kernel
theorem dL_areAlike_267 : decode cL_areAlike 267 = .ok (.iload 7, 2) := by decide +kernel
theorem dL_areAlike_269 : decode cL_areAlike 269 = .ok (.iconst 3, 1) := by decide +kernel
theorem dL_areAlike_270 : decode cL_areAlike 270 = .ok (.invokevirtual 59, 3) := by decide +kernel
theorem dL_areAlike_273 : decode cL_areAlike 273 = .ok (.aload_n 1, 1) := by decide +kernel
theorem dL_areAlike_274 : decode cL_areAlike 274 = .ok (.iload 7, 2) := by decide +kernel
theorem dL_areAlike_276 : decode cL_areAlike 276 = .ok (.iconst 3, 1) := by decide +kernel
theorem dL_areAlike_277 : decode cL_areAlike 277 = .ok (.invokevirtual 59, 3) := by decide +kernel
theorem dL_areAlike_280 : decode cL_areAlike 280 = .ok (.if_icmp .ne 24, 3) := by decide +kernel
theorem dL_areAlike_283 : decode cL_areAlike 283 = .ok (.aload_n 0, 1) := by decide +kernel
theorem dL_areAlike_284 : decode cL_areAlike 284 = .ok (.iload 7, 2) := by decide +kernel
theorem dL_areAlike_286 : decode cL_areAlike 286 = .ok (.iconst 2, 1) := by decide +kernel
theorem dL_areAlike_287 : decode cL_areAlike 287 = .ok (.invokevirtual 59, 3) := by decide +kernel
theorem dL_areAlike_290 : decode cL_areAlike 290 = .ok (.aload_n 1, 1) := by decide +kernel
theorem dL_areAlike_291 : decode cL_areAlike 291 = .ok (.iload 7, 2) := by decide +kernel
theorem dL_areAlike_293 : decode cL_areAlike 293 = .ok (.iconst 2, 1) := by decide +kernel
theorem dL_areAlike_294 : decode cL_areAlike 294 = .ok (.invokevirtual 59, 3) := by decide +kernel
theorem dL_areAlike_297 : decode cL_areAlike 297 = .ok (.if_icmp .ne 7, 3) := by decide +kernel
theorem dL_areAlike_300 : decode cL_areAlike 300 = .ok (.iconst 1, 1) := by decide +kernel
theorem dL_areAlike_301 : decode cL_areAlike 301 = .ok (.goto 4, 3) := by decide +kernel
theorem dL_areAlike_304 : decode cL_areAlike 304 = .ok (.iconst 0, 1) := by decide +kernel
theorem dL_areAlike_305 : decode cL_areAlike 305 = .ok (.istore_n 3, 1) := by decide +kernel
theorem dL_areAlike_306 : decode cL_areAlike 306 = .ok (.iinc 6 1, 3) := by decide +kernel
theorem dL_areAlike_309 : decode cL_areAlike 309 = .ok (.goto (-100), 3) := by decide +kernel
theorem dL_areAlike_312 : decode cL_areAlike 312 = .ok (.iload_n 3, 1) := by decide +kernel
theorem dL_areAlike_313 : decode cL_areAlike 313 = .ok (.ifCond .eq 56, 3) := by decide +kernel
theorem dL_areAlike_316 : decode cL_areAlike 316 = .ok (.iload 5, 2) := by decide +kernel
theorem dL_areAlike_318 : decode cL_areAlike 318 = .ok (.aload_n 0, 1) := by decide +kernel
theorem dL_areAlike_319 : decode cL_areAlike 319 = .ok (.iload 4, 2) := by decide +kernel
theorem dL_areAlike_321 : decode cL_areAlike 321 = .ok (.bipush 7, 2) := by decide +kernel
theorem dL_areAlike_323 : decode cL_areAlike 323 = .ok (.invokevirtual 21, 3) := by decide +kernel
theorem dL_areAlike_326 : decode cL_areAlike 326 = .ok (.if_icmp .ne 43, 3) := by decide +kernel
theorem dL_areAlike_329 : decode cL_areAlike 329 = .ok (.aload_n 0, 1) := by decide +kernel
theorem dL_areAlike_330 : decode cL_areAlike 330 = .ok (.iload 4, 2) := by decide +kernel
theorem dL_areAlike_332 : decode cL_areAlike 332 = .ok (.bipush 9, 2) := by decide +kernel
theorem dL_areAlike_334 : decode cL_areAlike 334 = .ok (.invokevirtual 21, 3) := by decide +kernel
theorem dL_areAlike_337 : decode cL_areAlike 337 = .ok (.aload_n 0, 1) := by decide +kernel
theorem dL_areAlike_338 : decode cL_areAlike 338 = .ok (.iload 4, 2) := by decide +kernel
theorem dL_areAlike_340 : decode cL_areAlike 340 = .ok (.bipush 10, 2) := by decide +kernel
theorem dL_areAlike_342 : decode cL_areAlike 342 = .ok (.invokevirtual 21, 3) := by decide +kernel
theorem dL_areAlike_345 : decode cL_areAlike 345 = .ok (.iadd, 1) := by decide +kernel
theorem dL_areAlike_346 : decode cL_areAlike 346 = .ok (.aload_n 0, 1) := by decide +kernel
theorem dL_areAlike_347 : decode cL_areAlike 347 = .ok (.iload 4, 2) := by decide +kernel
theorem dL_areAlike_349 : decode cL_areAlike 349 = .ok (.bipush 11, 2) := by decide +kernel
theorem dL_areAlike_351 : decode cL_areAlike 351 = .ok (.invokevirtual 21, 3) := by decide +kernel
theorem dL_areAlike_354 : decode cL_areAlike 354 = .ok (.iadd, 1) := by decide +kernel
theorem dL_areAlike_355 : decode cL_areAlike 355 = .ok (.aload_n 0, 1) := by decide +kernel
theorem dL_areAlike_356 : decode cL_areAlike 356 = .ok (.iload 4, 2) := by decide +kernel
theorem dL_areAlike_358 : decode cL_areAlike 358 = .ok (.iconst 4, 1) := by decide +kernel
theorem dL_areAlike_359 : decode cL_areAlike 359 = .ok (.invokevirtual 21, 3) := by decide +kernel
theorem dL_areAlike_362 : decode cL_areAlike 362 = .ok (.if_icmp .ne 7, 3) := by decide +kernel
theorem dL_areAlike_365 : decode cL_areAlike 365 = .ok (.iconst 1, 1) := by decide +kernel
theorem dL_areAlike_366 : decode cL_areAlike 366 = .ok (.goto 4, 3) := by decide +kernel
theorem dL_areAlike_369 : decode cL_areAlike 369 = .ok (.iconst 0, 1) := by decide +kernel
theorem dL_areAlike_370 : decode cL_areAlike 370 = .ok (.istore_n 3, 1) := by decide +kernel
theorem dL_areAlike_371 : decode cL_areAlike 371 = .ok (.iinc 4 1, 3) := by decide +kernel
theorem dL_areAlike_374 : decode cL_areAlike 374 = .ok (.goto (-242), 3) := by decide +kernel
theorem dL_areAlike_377 : decode cL_areAlike 377 = .ok (.iload_n 3, 1) := by decide +kernel
theorem dL_areAlike_378 : decode cL_areAlike 378 = .ok (.ireturn, 1) := by decide +kernel
set_option maxRecDepth 20000 in
theorem ggL_isSound_X7_hirer : GoodIn wsL_isSound wsX7_hirer := goodIn_r _ [6, 7, 8, 9, 10, 11, 12, 13, 14, 15, 16, 17, 18, 19, 20, 21, 22, 23, 24, 25, 26, 27, 28, 29, 30, 31, 32, 33, 34, 35, 36, 37, 38, 39, 40, 41, 42, 43, 44, 45, 46, 47, 48, 49, 50, 51, 52, 53, 54, 55, 56, 57, 170, 171, 172, 173, 174, 175, 176, 177, 178, 179, 180, 181, 182, 183, 184, 185, 186, 187, 188, 189, 190, 191, 192, 193, 194, 195, 196, 197, 198, 199, 200, 201, 202] (by decide +kernel) (by decide +kernel)
set_option maxRecDepth 20000 in
theorem gL_isSound_X7_hirer : GoodIn wsL_isSound (wsV RL 56 RX7 yX7_hirer wsX7_hirer) := goodIn_app (goodIn_of _ (by decide +kernel)) ggL_isSound_X7_hirer
set_option maxRecDepth 20000 in
theorem ggL_isSound_X7_count : GoodIn wsL_isSound wsX7_count := goodIn_r _ [61, 7, 62, 63, 64, 65, 66, 67, 68, 69, 70, 71, 14, 72, 21, 73, 74, 75, 36, 37, 38, 39, 40, 41, 76, 48, 49, 50, 51, 52, 77, 78, 79, 80, 81, 82, 83, 84, 85, 86, 87, 88, 89, 90, 91, 92, 93, 94, 95, 96, 97, 98, 99, 30, 100, 33, 101, 102, 103, 35, 104, 105, 106, 5, 107, 108, 109, 8, 170, 171, 172, 173, 174, 175, 176, 177, 178, 179, 180, 181, 182, 183, 184, 203, 204, 205, 206, 207, 185, 186, 187, 188, 189, 190, 191, 192, 193, 194, 195, 196, 197, 198, 199, 200, 201, 202] (by decide +kernel) (by decide +kernel)
set_option maxRecDepth 20000 in
theorem gL_isSound_X7_count : GoodIn wsL_isSound (wsV RL 9 RX7 yX7_count wsX7_count) := goodIn_app (goodIn_of _ (by decide +kernel)) ggL_isSound_X7_count
set_option maxRecDepth 20000 in
theorem ggL_isSound_X7_hireInfo : GoodIn wsL_isSound wsX7_hireInfo := goodIn_r _ [113, 7, 8, 114, 115, 116, 14, 117, 118, 21, 76, 48, 49, 50, 51, 52, 119, 120, 121, 30, 122, 123, 101, 103, 102, 32, 124, 125, 126, 33, 34, 127, 128, 129, 130, 131, 5, 132, 133, 28, 29, 31, 35, 36, 37, 38, 39, 40, 41, 170, 171, 172, 173, 174, 175, 176, 177, 178, 179, 180, 181, 182, 183, 184, 200, 201, 202, 185, 186, 187, 188, 189, 190, 191, 192, 193, 194, 195, 196, 197, 198, 199] (by decide +kernel) (by decide +kernel)
set_option maxRecDepth 20000 in
theorem gL_isSound_X7_hireInfo : GoodIn wsL_isSound (wsV RL 21 RX7 yX7_hireInfo wsX7_hireInfo) := goodIn_app (goodIn_of _ (by decide +kernel)) ggL_isSound_X7_hireInfo
set_option maxRecDepth 20000 in
theorem ggL_isSound_X7_inOrder : GoodIn wsL_isSound wsX7_inOrder := goodIn_r _ [137, 8, 7, 138, 139, 140, 141, 14, 142, 21, 143, 144, 145, 30, 146, 147, 148, 149, 150, 124, 125, 32, 34, 151, 152, 153, 154, 155, 156, 157, 158, 159, 160, 161, 162, 163, 103, 164, 165, 166, 167, 168, 46, 169, 170, 171, 172, 173, 174, 175, 176, 177, 178, 179, 180, 181, 182, 183, 184, 185, 186, 187, 188, 189, 190, 191, 192, 193, 194, 195, 196, 197, 198, 199] (by decide +kernel) (by decide +kernel)
set_option maxRecDepth 20000 in
theorem gL_isSound_X7_inOrder : GoodIn wsL_isSound (wsV RL 62 RX7 yX7_inOrder wsX7_inOrder) := goodIn_app (goodIn_of _ (by decide +kernel)) ggL_isSound_X7_inOrder
theorem dL_isSound_0 : decode cL_isSound 0 = .ok (.iconst 0, 1) := by decide +kernel
theorem dL_isSound_1 : decode cL_isSound 1 = .ok (.istore_n 1, 1) := by decide +kernel
theorem dL_isSound_2 : decode cL_isSound 2 = .ok (.iconst 0, 1) := by decide +kernel
theorem dL_isSound_3 : decode cL_isSound 3 = .ok (.istore_n 2, 1) := by decide +kernel
theorem dL_isSound_4 : decode cL_isSound 4 = .ok (.iconst 0, 1) := by decide +kernel
theorem dL_isSound_5 : decode cL_isSound 5 = .ok (.istore_n 3, 1) := by decide +kernel
theorem dL_isSound_6 : decode cL_isSound 6 = .ok (.iconst 0, 1) := by decide +kernel
theorem dL_isSound_7 : decode cL_isSound 7 = .ok (.istore 4, 2) := by decide +kernel
theorem dL_isSound_9 : decode cL_isSound 9 = .ok (.iload 4, 2) := by decide +kernel
theorem dL_isSound_11 : decode cL_isSound 11 = .ok (.iconst 3, 1) := by decide +kernel
theorem dL_isSound_12 : decode cL_isSound 12 = .ok (.if_icmp .ge 30, 3) := by decide +kernel
theorem dL_isSound_15 : decode cL_isSound 15 = .ok (.iload_n 1, 1) := by decide +kernel
theorem dL_isSound_16 : decode cL_isSound 16 = .ok (.aload_n 0, 1) := by decide +kernel
theorem dL_isSound_17 : decode cL_isSound 17 = .ok (.iload 4, 2) := by decide +kernel
theorem dL_isSound_19 : decode cL_isSound 19 = .ok (.iconst 2, 1) := by decide +kernel
theorem dL_isSound_20 : decode cL_isSound 20 = .ok (.invokevirtual 56, 3) := by decide +kernel
theorem dL_isSound_23 : decode cL_isSound 23 = .ok (.iadd, 1) := by decide +kernel
theorem dL_isSound_24 : decode cL_isSound 24 = .ok (.istore_n 1, 1) := by decide +kernel
theorem dL_isSound_25 : decode cL_isSound 25 = .ok (.iload_n 2, 1) := by decide +kernel
theorem dL_isSound_26 : decode cL_isSound 26 = .ok (.aload_n 0, 1) := by decide +kernel
theorem dL_isSound_27 : decode cL_isSound 27 = .ok (.iload 4, 2) := by decide +kernel
theorem dL_isSound_29 : decode cL_isSound 29 = .ok (.bipush 6, 2) := by decide +kernel
theorem dL_isSound_31 : decode cL_isSound 31 = .ok (.invokevirtual 56, 3) := by decide +kernel
theorem dL_isSound_34 : decode cL_isSound 34 = .ok (.iadd, 1) := by decide +kernel
theorem dL_isSound_35 : decode cL_isSound 35 = .ok (.istore_n 2, 1) := by decide +kernel
theorem dL_isSound_36 : decode cL_isSound 36 = .ok (.iinc 4 1, 3) := by decide +kernel
theorem dL_isSound_39 : decode cL_isSound 39 = .ok (.goto (-30), 3) := by decide +kernel
theorem dL_isSound_42 : decode cL_isSound 42 = .ok (.aload_n 0, 1) := by decide +kernel
theorem dL_isSound_43 : decode cL_isSound 43 = .ok (.iconst 4, 1) := by decide +kernel
theorem dL_isSound_44 : decode cL_isSound 44 = .ok (.invokevirtual 9, 3) := by decide +kernel
theorem dL_isSound_47 : decode cL_isSound 47 = .ok (.istore 4, 2) := by decide +kernel
theorem dL_isSound_49 : decode cL_isSound 49 = .ok (.iconst 0, 1) := by decide +kernel
theorem dL_isSound_50 : decode cL_isSound 50 = .ok (.istore 5, 2) := by decide +kernel
theorem dL_isSound_52 : decode cL_isSound 52 = .ok (.iconst 0, 1) := by decide +kernel
theorem dL_isSound_53 : decode cL_isSound 53 = .ok (.istore 6, 2) := by decide +kernel
theorem dL_isSound_55 : decode cL_isSound 55 = .ok (.iload 6, 2) := by decide +kernel
theorem dL_isSound_57 : decode cL_isSound 57 = .ok (.aload_n 0, 1) := by decide +kernel
theorem dL_isSound_58 : decode cL_isSound 58 = .ok (.iconst 2, 1) := by decide +kernel
theorem dL_isSound_59 : decode cL_isSound 59 = .ok (.invokevirtual 9, 3) := by decide +kernel
theorem dL_isSound_62 : decode cL_isSound 62 = .ok (.if_icmp .ge 57, 3) := by decide +kernel
theorem dL_isSound_65 : decode cL_isSound 65 = .ok (.iload_n 3, 1) := by decide +kernel
theorem dL_isSound_66 : decode cL_isSound 66 = .ok (.aload_n 0, 1) := by decide +kernel
theorem dL_isSound_67 : decode cL_isSound 67 = .ok (.iload 6, 2) := by decide +kernel
theorem dL_isSound_69 : decode cL_isSound 69 = .ok (.bipush 12, 2) := by decide +kernel
theorem dL_isSound_71 : decode cL_isSound 71 = .ok (.invokevirtual 21, 3) := by decide +kernel
theorem dL_isSound_74 : decode cL_isSound 74 = .ok (.iadd, 1) := by decide +kernel
theorem dL_isSound_75 : decode cL_isSound 75 = .ok (.istore_n 3, 1) := by decide +kernel
theorem dL_isSound_76 : decode cL_isSound 76 = .ok (.iload 4, 2) := by decide +kernel
theorem dL_isSound_78 : decode cL_isSound 78 = .ok (.aload_n 0, 1) := by decide +kernel
theorem dL_isSound_79 : decode cL_isSound 79 = .ok (.iload 6, 2) := by decide +kernel
theorem dL_isSound_81 : decode cL_isSound 81 = .ok (.bipush 14, 2) := by decide +kernel
theorem dL_isSound_83 : decode cL_isSound 83 = .ok (.invokevirtual 21, 3) := by decide +kernel
theorem dL_isSound_86 : decode cL_isSound 86 = .ok (.iadd, 1) := by decide +kernel
theorem dL_isSound_87 : decode cL_isSound 87 = .ok (.istore 4, 2) := by decide +kernel
theorem dL_isSound_89 : decode cL_isSound 89 = .ok (.iload_n 2, 1) := by decide +kernel
theorem dL_isSound_90 : decode cL_isSound 90 = .ok (.aload_n 0, 1) := by decide +kernel
theorem dL_isSound_91 : decode cL_isSound 91 = .ok (.iload 6, 2) := by decide +kernel
theorem dL_isSound_93 : decode cL_isSound 93 = .ok (.bipush 13, 2) := by decide +kernel
theorem dL_isSound_95 : decode cL_isSound 95 = .ok (.invokevirtual 21, 3) := by decide +kernel
theorem dL_isSound_98 : decode cL_isSound 98 = .ok (.isub, 1) := by decide +kernel
theorem dL_isSound_99 : decode cL_isSound 99 = .ok (.istore_n 2, 1) := by decide +kernel
theorem dL_isSound_100 : decode cL_isSound 100 = .ok (.iload 5, 2) := by decide +kernel
theorem dL_isSound_102 : decode cL_isSound 102 = .ok (.aload_n 0, 1) := by decide +kernel
theorem dL_isSound_103 : decode cL_isSound 103 = .ok (.iload 6, 2) := by decide +kernel
theorem dL_isSound_105 : decode cL_isSound 105 = .ok (.bipush 7, 2) := by decide +kernel
theorem dL_isSound_107 : decode cL_isSound 107 = .ok (.invokevirtual 21, 3) := by decide +kernel
theorem dL_isSound_110 : decode cL_isSound 110 = .ok (.iadd, 1) := by decide +kernel
theorem dL_isSound_111 : decode cL_isSound 111 = .ok (.istore 5, 2) := by decide +kernel
theorem dL_isSound_113 : decode cL_isSound 113 = .ok (.iinc 6 1, 3) := by decide +kernel
theorem dL_isSound_116 : decode cL_isSound 116 = .ok (.goto (-61), 3) := by decide +kernel
theorem dL_isSound_119 : decode cL_isSound 119 = .ok (.iload 4, 2) := by decide +kernel
theorem dL_isSound_121 : decode cL_isSound 121 = .ok (.bipush 6, 2) := by decide +kernel
theorem dL_isSound_123 : decode cL_isSound 123 = .ok (.if_icmp .ne 68, 3) := by decide +kernel
theorem dL_isSound_126 : decode cL_isSound 126 = .ok (.iload_n 2, 1) := by decide +kernel
theorem dL_isSound_127 : decode cL_isSound 127 = .ok (.ifCond .ne 64, 3) := by decide +kernel
theorem dL_isSound_130 : decode cL_isSound 130 = .ok (.iload_n 3, 1) := by decide +kernel
theorem dL_isSound_131 : decode cL_isSound 131 = .ok (.aload_n 0, 1) := by decide +kernel
theorem dL_isSound_132 : decode cL_isSound 132 = .ok (.bipush 23, 2) := by decide +kernel
theorem dL_isSound_134 : decode cL_isSound 134 = .ok (.invokevirtual 9, 3) := by decide +kernel
theorem dL_isSound_137 : decode cL_isSound 137 = .ok (.if_icmp .ne 54, 3) := by decide +kernel
theorem dL_isSound_140 : decode cL_isSound 140 = .ok (.iload 5, 2) := by decide +kernel
theorem dL_isSound_142 : decode cL_isSound 142 = .ok (.aload_n 0, 1) := by decide +kernel
theorem dL_isSound_143 : decode cL_isSound 143 = .ok (.bipush 20, 2) := by decide +kernel
theorem dL_isSound_145 : decode cL_isSound 145 = .ok (.invokevirtual 9, 3) := by decide +kernel
theorem dL_isSound_148 : decode cL_isSound 148 = .ok (.if_icmp .ne 43, 3) := by decide +kernel
theorem dL_isSound_151 : decode cL_isSound 151 = .ok (.aload_n 0, 1) := by decide +kernel
theorem dL_isSound_152 : decode cL_isSound 152 = .ok (.bipush 22, 2) := by decide +kernel
theorem dL_isSound_154 : decode cL_isSound 154 = .ok (.invokevirtual 9, 3) := by decide +kernel
theorem dL_isSound_157 : decode cL_isSound 157 = .ok (.aload_n 0, 1) := by decide +kernel
theorem dL_isSound_158 : decode cL_isSound 158 = .ok (.bipush 23, 2) := by decide +kernel
theorem dL_isSound_160 : decode cL_isSound 160 = .ok (.invokevirtual 9, 3) := by decide +kernel
theorem dL_isSound_163 : decode cL_isSound 163 = .ok (.aload_n 0, 1) := by decide +kernel
theorem dL_isSound_164 : decode cL_isSound 164 = .ok (.bipush 24, 2) := by decide +kernel
theorem dL_isSound_166 : decode cL_isSound 166 = .ok (.invokevirtual 9, 3) := by decide +kernel
theorem dL_isSound_169 : decode cL_isSound 169 = .ok (.iadd, 1) := by decide +kernel
theorem dL_isSound_170 : decode cL_isSound 170 = .ok (.aload_n 0, 1) := by decide +kernel
theorem dL_isSound_171 : decode cL_isSound 171 = .ok (.bipush 25, 2) := by decide +kernel
theorem dL_isSound_173 : decode cL_isSound 173 = .ok (.invokevirtual 9, 3) := by decide +kernel
theorem dL_isSound_176 : decode cL_isSound 176 = .ok (.iadd, 1) := by decide +kernel
theorem dL_isSound_177 : decode cL_isSound 177 = .ok (.aload_n 0, 1) := by decide +kernel
theorem dL_isSound_178 : decode cL_isSound 178 = .ok (.bipush 26, 2) := by decide +kernel
theorem dL_isSound_180 : decode cL_isSound 180 = .ok (.invokevirtual 9, 3) := by decide +kernel
theorem dL_isSound_183 : decode cL_isSound 183 = .ok (.iadd, 1) := by decide +kernel
theorem dL_isSound_184 : decode cL_isSound 184 = .ok (.if_icmp .ne 7, 3) := by decide +kernel
theorem dL_isSound_187 : decode cL_isSound 187 = .ok (.iconst 1, 1) := by decide +kernel
theorem dL_isSound_188 : decode cL_isSound 188 = .ok (.goto 4, 3) := by decide +kernel
theorem dL_isSound_191 : decode cL_isSound 191 = .ok (.iconst 0, 1) := by decide +kernel
theorem dL_isSound_192 : decode cL_isSound 192 = .ok (.istore 6, 2) := by decide +kernel
theorem dL_isSound_194 : decode cL_isSound 194 = .ok (.iload 6, 2) := by decide +kernel
theorem dL_isSound_196 : decode cL_isSound 196 = .ok (.ifCond .eq 52, 3) := by decide +kernel
theorem dL_isSound_199 : decode cL_isSound 199 = .ok (.iload_n 1, 1) := by decide +kernel
theorem dL_isSound_200 : decode cL_isSound 200 = .ok (.aload_n 0, 1) := by decide +kernel
theorem dL_isSound_201 : decode cL_isSound 201 = .ok (.bipush 20, 2) := by decide +kernel
theorem dL_isSound_203 : decode cL_isSound 203 = .ok (.invokevirtual 9, 3) := by decide +kernel
theorem dL_isSound_206 : decode cL_isSound 206 = .ok (.aload_n 0, 1) := by decide +kernel
theorem dL_isSound_207 : decode cL_isSound 207 = .ok (.bipush 21, 2) := by decide +kernel
theorem dL_isSound_209 : decode cL_isSound 209 = .ok (.invokevirtual 9, 3) := by decide +kernel
theorem dL_isSound_212 : decode cL_isSound 212 = .ok (.isub, 1) := by decide +kernel
theorem dL_isSound_213 : decode cL_isSound 213 = .ok (.aload_n 0, 1) := by decide +kernel
theorem dL_isSound_214 : decode cL_isSound 214 = .ok (.bipush 22, 2) := by decide +kernel
theorem dL_isSound_216 : decode cL_isSound 216 = .ok (.invokevirtual 9, 3) := by decide +kernel
theorem dL_isSound_219 : decode cL_isSound 219 = .ok (.iadd, 1) := by decide +kernel
theorem dL_isSound_220 : decode cL_isSound 220 = .ok (.aload_n 0, 1) := by decide +kernel
theorem dL_isSound_221 : decode cL_isSound 221 = .ok (.bipush 26, 2) := by decide +kernel
theorem dL_isSound_223 : decode cL_isSound 223 = .ok (.invokevirtual 9, 3) := by decide +kernel
theorem dL_isSound_226 : decode cL_isSound 226 = .ok (.isub, 1) := by decide +kernel
theorem dL_isSound_227 : decode cL_isSound 227 = .ok (.aload_n 0, 1) := by decide +kernel
theorem dL_isSound_228 : decode cL_isSound 228 = .ok (.bipush 27, 2) := by decide +kernel
theorem dL_isSound_230 : decode cL_isSound 230 = .ok (.invokevirtual 9, 3) := by decide +kernel
theorem dL_isSound_233 : decode cL_isSound 233 = .ok (.iadd, 1) := by decide +kernel
theorem dL_isSound_234 : decode cL_isSound 234 = .ok (.aload_n 0, 1) := by decide +kernel
theorem dL_isSound_235 : decode cL_isSound 235 = .ok (.bipush 28, 2) := by decide +kernel
theorem dL_isSound_237 : decode cL_isSound 237 = .ok (.invokevirtual 9, 3) := by decide +kernel
theorem dL_isSound_240 : decode cL_isSound 240 = .ok (.isub, 1) := by decide +kernel
theorem dL_isSound_241 : decode cL_isSound 241 = .ok (.if_icmp .ne 7, 3) := by decide +kernel
theorem dL_isSound_244 : decode cL_isSound 244 = .ok (.iconst 1, 1) := by decide +kernel
theorem dL_isSound_245 : decode cL_isSound 245 = .ok (.goto 4, 3) := by decide +kernel
theorem dL_isSound_248 : decode cL_isSound 248 = .ok (.iconst 0, 1) := by decide +kernel
theorem dL_isSound_249 : decode cL_isSound 249 = .ok (.istore 6, 2) := by decide +kernel
theorem dL_isSound_251 : decode cL_isSound 251 = .ok (.iload 6, 2) := by decide +kernel
theorem dL_isSound_253 : decode cL_isSound 253 = .ok (.ifCond .eq 43, 3) := by decide +kernel
theorem dL_isSound_256 : decode cL_isSound 256 = .ok (.aload_n 0, 1) := by decide +kernel
theorem dL_isSound_257 : decode cL_isSound 257 = .ok (.aload_n 0, 1) := by decide +kernel
theorem dL_isSound_258 : decode cL_isSound 258 = .ok (.iconst 3, 1) := by decide +kernel
theorem dL_isSound_259 : decode cL_isSound 259 = .ok (.invokevirtual 9, 3) := by decide +kernel
theorem dL_isSound_262 : decode cL_isSound 262 = .ok (.invokevirtual 62, 3) := by decide +kernel
theorem dL_isSound_265 : decode cL_isSound 265 = .ok (.ldc 65, 2) := by decide +kernel
theorem dL_isSound_267 : decode cL_isSound 267 = .ok (.if_icmp .ne 29, 3) := by decide +kernel
theorem dL_isSound_270 : decode cL_isSound 270 = .ok (.aload_n 0, 1) := by decide +kernel
theorem dL_isSound_271 : decode cL_isSound 271 = .ok (.iconst 3, 1) := by decide +kernel
theorem dL_isSound_272 : decode cL_isSound 272 = .ok (.invokevirtual 9, 3) := by decide +kernel
theorem dL_isSound_275 : decode cL_isSound 275 = .ok (.ifCond .eq 17, 3) := by decide +kernel
theorem dL_isSound_278 : decode cL_isSound 278 = .ok (.aload_n 0, 1) := by decide +kernel
theorem dL_isSound_279 : decode cL_isSound 279 = .ok (.aload_n 0, 1) := by decide +kernel
theorem dL_isSound_280 : decode cL_isSound 280 = .ok (.iconst 3, 1) := by decide +kernel
theorem dL_isSound_281 : decode cL_isSound 281 = .ok (.invokevirtual 9, 3) := by decide +kernel
theorem dL_isSound_284 : decode cL_isSound 284 = .ok (.iconst 1, 1) := by decide +kernel
theorem dL_isSound_285 : decode cL_isSound 285 = .ok (.isub, 1) := by decide +kernel
theorem dL_isSound_286 : decode cL_isSound 286 = .ok (.invokevirtual 62, 3) := by decide +kernel
theorem dL_isSound_289 : decode cL_isSound 289 = .ok (.ifCond .lt 7, 3) := by decide +kernel
theorem dL_isSound_292 : decode cL_isSound 292 = .ok (.iconst 1, 1) := by decide +kernel
theorem dL_isSound_293 : decode cL_isSound 293 = .ok (.goto 4, 3) := by decide +kernel
theorem dL_isSound_296 : decode cL_isSound 296 = .ok (.iconst 0, 1) := by decide +kernel
theorem dL_isSound_297 : decode cL_isSound 297 = .ok (.ireturn, 1) := by decide +kernel
