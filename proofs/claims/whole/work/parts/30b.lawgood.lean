/-! ===== the law: its calls words ===== -/
set_option maxRecDepth 20000 in
theorem ggL_law_X7_init : GoodIn wsL_law wsX7_init := goodIn_r _ [8, 9, 10, 11, 12, 13, 14, 15, 16, 17, 18, 19, 20, 21, 22, 23, 24, 25, 26, 27, 28, 29, 30, 31, 32, 33, 34, 35, 36, 37, 38, 39, 40, 41, 42, 43, 44, 45, 46, 47, 48, 49, 50, 51, 52, 53, 54, 55, 56, 57, 58, 59, 60, 61, 62, 63, 64, 65, 66, 67, 68, 69, 70, 71, 72, 73, 74, 75, 76, 77, 78, 79, 80, 81, 82, 83, 84, 85, 86, 87, 88, 89, 90, 91, 92, 981, 982, 983, 984, 985, 986, 987, 988, 989, 957, 958, 959, 960, 961, 962, 990, 991, 992, 993, 994, 995, 996, 997, 998, 999, 1000, 1001, 1002, 1003, 1004, 1005, 1006, 1007, 1008, 1009, 1010, 1011, 1012, 1013, 1014, 1015, 1016, 1017, 1018, 1019, 1020, 1021, 1022, 1023, 1024, 1025] (by decide +kernel) (by decide +kernel)
set_option maxRecDepth 20000 in
theorem gL_law_X7_init : GoodIn wsL_law (wsX7_init) := ggL_law_X7_init
set_option maxRecDepth 20000 in
theorem ggL_law_X8_init : GoodIn wsL_law wsX8_init := goodIn_r _ [95, 96, 10, 11, 44, 97, 98, 99, 100, 101, 102, 963, 964, 965, 966, 967, 968, 969, 970, 971, 972, 973, 974, 975, 976, 977, 978, 979, 980] (by decide +kernel) (by decide +kernel)
set_option maxRecDepth 20000 in
theorem gL_law_X8_init : GoodIn wsL_law (wsX8_init) := ggL_law_X8_init
set_option maxRecDepth 20000 in
theorem ggL_law_X7_addHirer : GoodIn wsL_law wsX7_addHirer := goodIn_r _ [106, 15, 107, 108, 19, 109, 110, 111, 18, 112, 113, 74, 114, 115, 116, 117, 118, 119, 120, 14, 121, 122, 123, 124, 43, 125, 126, 127, 128, 45, 46, 47, 49, 53, 129, 130, 131, 51, 132, 61, 133, 134, 135, 136, 137, 138, 139, 140, 141, 142, 143, 144, 62, 145, 146, 147, 148, 55, 149, 68, 150, 957, 958, 959, 960, 961, 962, 981, 982, 983, 984, 985, 986, 987, 988, 989, 990, 991, 1008, 1009, 1010, 1011, 1012, 1013, 1014, 1015, 1016, 1017, 1018, 1019, 1020, 1021, 1022, 1023, 1024, 1025] (by decide +kernel) (by decide +kernel)
set_option maxRecDepth 20000 in
theorem gL_law_X7_addHirer : GoodIn wsL_law (wsV RL 13 RX7 yX7_addHirer wsX7_addHirer) := goodIn_app (goodIn_of _ (by decide +kernel)) ggL_law_X7_addHirer
set_option maxRecDepth 20000 in
theorem ggL_law_X8_addHirer : GoodIn wsL_law wsX8_addHirer := goodIn_r _ [154, 97, 155, 156, 157, 158, 5, 159, 160, 98, 963, 964, 965, 966, 967, 968, 969, 970, 971, 972, 973, 974, 975, 976, 977, 978, 979, 980] (by decide +kernel) (by decide +kernel)
set_option maxRecDepth 20000 in
theorem gL_law_X8_addHirer : GoodIn wsL_law (wsV RL 17 RX8 yX8_addHirer wsX8_addHirer) := goodIn_app (goodIn_of _ (by decide +kernel)) ggL_law_X8_addHirer
set_option maxRecDepth 20000 in
theorem ggL_law_X7_hirer : GoodIn wsL_law wsX7_hirer := goodIn_r _ [164, 15, 165, 166, 167, 168, 169, 170, 14, 171, 123, 172, 173, 174, 175, 49, 176, 177, 178, 179, 180, 181, 182, 183, 51, 184, 136, 140, 141, 185, 186, 187, 188, 189, 190, 191, 192, 193, 194, 195, 196, 197, 198, 199, 200, 53, 201, 202, 203, 204, 205, 206, 957, 958, 959, 960, 961, 962, 981, 982, 983, 984, 985, 986, 987, 988, 989, 1008, 1009, 1010, 1011, 1012, 1013, 1014, 1015, 1016, 1017, 1018, 1019, 1020, 1021, 1022, 1023, 1024, 1025] (by decide +kernel) (by decide +kernel)
set_option maxRecDepth 20000 in
theorem gL_law_X7_hirer : GoodIn wsL_law (wsV RL 18 RX7 yX7_hirer wsX7_hirer) := goodIn_app (goodIn_of _ (by decide +kernel)) ggL_law_X7_hirer
set_option maxRecDepth 20000 in
theorem ggL_law_X8_hirer : GoodIn wsL_law wsX8_hirer := goodIn_r _ [210, 211, 212, 97, 213, 214, 215, 5, 216, 217, 218, 219, 220, 221, 222, 223, 224, 225, 226, 227, 228, 229, 230, 231, 232, 233, 234, 235, 236, 237, 238, 963, 964, 965, 966, 967, 968, 969, 970, 971, 972, 973, 974, 975, 976, 977, 978, 979, 980] (by decide +kernel) (by decide +kernel)
set_option maxRecDepth 20000 in
theorem gL_law_X8_hirer : GoodIn wsL_law (wsV RL 22 RX8 yX8_hirer wsX8_hirer) := goodIn_app (goodIn_of _ (by decide +kernel)) ggL_law_X8_hirer
set_option maxRecDepth 20000 in
theorem ggL_law_X7_pay : GoodIn wsL_law wsX7_pay := goodIn_r _ [242, 15, 243, 165, 167, 244, 108, 19, 166, 168, 169, 170, 14, 171, 123, 109, 110, 111, 18, 112, 113, 74, 114, 115, 116, 117, 118, 119, 120, 121, 122, 124, 43, 125, 126, 127, 128, 45, 46, 47, 49, 53, 129, 130, 131, 51, 132, 61, 133, 134, 135, 136, 137, 138, 139, 140, 141, 142, 143, 144, 62, 145, 146, 147, 148, 55, 149, 68, 150, 245, 246, 247, 248, 249, 957, 958, 959, 960, 961, 962, 981, 982, 983, 984, 985, 986, 987, 988, 989, 990, 991, 1008, 1009, 1010, 1011, 1012, 1013, 1014, 1015, 1016, 1017, 1018, 1019, 1020, 1021, 1022, 1023, 1024, 1025] (by decide +kernel) (by decide +kernel)
set_option maxRecDepth 20000 in
theorem gL_law_X7_pay : GoodIn wsL_law (wsV RL 23 RX7 yX7_pay wsX7_pay) := goodIn_app (goodIn_of _ (by decide +kernel)) ggL_law_X7_pay
set_option maxRecDepth 20000 in
theorem ggL_law_X8_pay : GoodIn wsL_law wsX8_pay := goodIn_r _ [253, 254, 212, 97, 255, 155, 213, 214, 215, 5, 216, 217, 218, 219, 156, 157, 158, 159, 160, 98, 256, 257, 258, 259, 963, 964, 965, 966, 967, 968, 969, 970, 971, 972, 973, 974, 975, 976, 977, 978, 979, 980] (by decide +kernel) (by decide +kernel)
set_option maxRecDepth 20000 in
theorem gL_law_X8_pay : GoodIn wsL_law (wsV RL 26 RX8 yX8_pay wsX8_pay) := goodIn_app (goodIn_of _ (by decide +kernel)) ggL_law_X8_pay
set_option maxRecDepth 20000 in
theorem ggL_law_X7_set : GoodIn wsL_law wsX7_set := goodIn_r _ [263, 264, 165, 19, 15, 265, 109, 110, 111, 18, 112, 113, 74, 114, 115, 116, 117, 118, 119, 120, 14, 121, 122, 123, 124, 43, 125, 126, 127, 128, 45, 46, 47, 49, 53, 129, 130, 131, 51, 132, 61, 133, 134, 135, 136, 137, 138, 139, 140, 141, 142, 143, 144, 62, 145, 146, 147, 148, 55, 149, 68, 150, 957, 958, 959, 960, 961, 962, 981, 982, 983, 984, 985, 986, 987, 988, 989, 990, 991, 1008, 1009, 1010, 1011, 1012, 1013, 1014, 1015, 1016, 1017, 1018, 1019, 1020, 1021, 1022, 1023, 1024, 1025] (by decide +kernel) (by decide +kernel)
set_option maxRecDepth 20000 in
theorem gL_law_X7_set : GoodIn wsL_law (wsV RL 27 RX7 yX7_set wsX7_set) := goodIn_app (goodIn_of _ (by decide +kernel)) ggL_law_X7_set
set_option maxRecDepth 20000 in
theorem ggL_law_X8_set : GoodIn wsL_law wsX8_set := goodIn_r _ [269, 270, 212, 97, 217, 218, 5, 219, 271, 272, 273, 274, 156, 157, 158, 159, 160, 98, 963, 964, 965, 966, 967, 968, 969, 970, 971, 972, 973, 974, 975, 976, 977, 978, 979, 980] (by decide +kernel) (by decide +kernel)
set_option maxRecDepth 20000 in
theorem gL_law_X8_set : GoodIn wsL_law (wsV RL 30 RX8 yX8_set wsX8_set) := goodIn_app (goodIn_of _ (by decide +kernel)) ggL_law_X8_set
set_option maxRecDepth 20000 in
theorem ggL_law_X7_hire : GoodIn wsL_law wsX7_hire := goodIn_r _ [278, 31, 279, 280, 15, 281, 165, 282, 32, 108, 19, 283, 284, 285, 30, 286, 287, 288, 289, 290, 291, 292, 293, 294, 295, 168, 169, 170, 14, 171, 123, 296, 297, 2, 298, 299, 300, 301, 302, 303, 304, 305, 306, 307, 308, 309, 310, 311, 312, 313, 314, 315, 316, 317, 49, 318, 319, 320, 51, 321, 322, 323, 324, 325, 137, 138, 136, 141, 326, 327, 328, 329, 176, 330, 43, 331, 332, 333, 334, 335, 336, 337, 338, 339, 340, 134, 60, 341, 342, 343, 344, 196, 345, 346, 347, 348, 349, 124, 109, 110, 111, 18, 112, 113, 74, 114, 115, 116, 117, 118, 119, 120, 121, 122, 125, 126, 127, 128, 45, 46, 47, 53, 129, 130, 131, 132, 61, 133, 135, 139, 140, 142, 143, 144, 62, 145, 146, 147, 148, 55, 149, 68, 150, 350, 351, 352, 353, 354, 355, 356, 357, 358, 359, 360, 361, 362, 363, 364, 365, 366, 367, 368, 369, 370, 371, 372, 373, 374, 375, 376, 377, 378, 379, 380, 381, 382, 383, 249, 957, 958, 959, 960, 961, 962, 1001, 1002, 1003, 1004, 1005, 1006, 1007, 981, 982, 983, 984, 985, 986, 987, 988, 989, 1008, 1009, 1010, 1011, 1012, 1013, 1014, 1015, 1016, 1017, 1018, 1019, 1020, 1021, 1022, 990, 991, 1023, 1024, 1025] (by decide +kernel) (by decide +kernel)
set_option maxRecDepth 20000 in
theorem gL_law_X7_hire : GoodIn wsL_law (wsV RL 31 RX7 yX7_hire wsX7_hire) := goodIn_app (goodIn_of _ (by decide +kernel)) ggL_law_X7_hire
set_option maxRecDepth 20000 in
theorem ggL_law_X8_hire : GoodIn wsL_law wsX8_hire := goodIn_r _ [387, 270, 212, 388, 101, 97, 155, 213, 214, 215, 5, 216, 217, 218, 219, 389, 390, 391, 392, 393, 394, 395, 396, 397, 398, 399, 400, 401, 402, 403, 404, 405, 406, 224, 225, 226, 227, 228, 229, 230, 407, 408, 409, 410, 411, 412, 413, 414, 415, 416, 417, 418, 156, 157, 158, 159, 160, 98, 419, 420, 421, 422, 423, 424, 425, 426, 427, 428, 429, 430, 431, 432, 433, 434, 435, 436, 437, 963, 964, 965, 966, 967, 968, 969, 970, 971, 972, 973, 974, 975, 976, 977, 978, 979, 980] (by decide +kernel) (by decide +kernel)
set_option maxRecDepth 20000 in
theorem gL_law_X8_hire : GoodIn wsL_law (wsV RL 35 RX8 yX8_hire wsX8_hire) := goodIn_app (goodIn_of _ (by decide +kernel)) ggL_law_X8_hire
set_option maxRecDepth 20000 in
theorem ggL_law_X7_clash : GoodIn wsL_law wsX7_clash := goodIn_r _ [441, 32, 442, 957, 958, 959, 960, 961, 962] (by decide +kernel) (by decide +kernel)
set_option maxRecDepth 20000 in
theorem gL_law_X7_clash : GoodIn wsL_law (wsV RL 36 RX7 yX7_clash wsX7_clash) := goodIn_app (goodIn_of _ (by decide +kernel)) ggL_law_X7_clash
set_option maxRecDepth 20000 in
theorem ggL_law_X8_clash : GoodIn wsL_law wsX8_clash := goodIn_r _ [446, 101, 963, 964, 965, 966, 967, 968, 969, 970, 971, 972, 973, 974, 975, 976, 977, 978, 979, 980] (by decide +kernel) (by decide +kernel)
set_option maxRecDepth 20000 in
theorem gL_law_X8_clash : GoodIn wsL_law (wsV RL 39 RX8 yX8_clash wsX8_clash) := goodIn_app (goodIn_of _ (by decide +kernel)) ggL_law_X8_clash
set_option maxRecDepth 20000 in
theorem ggL_law_X7_hireInfo : GoodIn wsL_law wsX7_hireInfo := goodIn_r _ [450, 15, 165, 451, 452, 453, 14, 454, 124, 49, 455, 198, 199, 200, 53, 201, 456, 457, 458, 51, 459, 61, 133, 134, 135, 136, 137, 138, 139, 140, 141, 142, 143, 144, 460, 367, 2, 368, 461, 182, 183, 184, 185, 186, 187, 188, 189, 190, 191, 957, 958, 959, 960, 961, 962, 981, 982, 983, 984, 985, 986, 987, 988, 989, 1023, 1024, 1025, 1008, 1009, 1010, 1011, 1012, 1013, 1014, 1015, 1016, 1017, 1018, 1019, 1020, 1021, 1022] (by decide +kernel) (by decide +kernel)
set_option maxRecDepth 20000 in
theorem gL_law_X7_hireInfo : GoodIn wsL_law (wsV RL 40 RX7 yX7_hireInfo wsX7_hireInfo) := goodIn_app (goodIn_of _ (by decide +kernel)) ggL_law_X7_hireInfo
set_option maxRecDepth 20000 in
theorem ggL_law_X8_hireInfo : GoodIn wsL_law wsX8_hireInfo := goodIn_r _ [465, 466, 212, 467, 468, 469, 5, 470, 97, 217, 218, 219, 231, 232, 233, 234, 224, 225, 226, 227, 228, 229, 230, 235, 236, 237, 238, 963, 964, 965, 966, 967, 968, 969, 970, 971, 972, 973, 974, 975, 976, 977, 978, 979, 980] (by decide +kernel) (by decide +kernel)
set_option maxRecDepth 20000 in
theorem gL_law_X8_hireInfo : GoodIn wsL_law (wsV RL 43 RX8 yX8_hireInfo wsX8_hireInfo) := goodIn_app (goodIn_of _ (by decide +kernel)) ggL_law_X8_hireInfo
set_option maxRecDepth 20000 in
theorem ggL_law_X7_session : GoodIn wsL_law wsX7_session := goodIn_r _ [474, 15, 165, 281, 442, 475, 476, 477, 14, 478, 479, 480, 452, 453, 454, 124, 49, 481, 482, 483, 51, 484, 137, 138, 485, 486, 487, 488, 140, 141, 489, 490, 491, 492, 136, 139, 493, 494, 495, 496, 497, 498, 957, 958, 959, 960, 961, 962, 981, 982, 983, 984, 985, 986, 987, 988, 989, 1008, 1009, 1010, 1011, 1012, 1013, 1014, 1015, 1016, 1017, 1018, 1019, 1020, 1021, 1022] (by decide +kernel) (by decide +kernel)
set_option maxRecDepth 20000 in
theorem gL_law_X7_session : GoodIn wsL_law (wsV RL 44 RX7 yX7_session wsX7_session) := goodIn_app (goodIn_of _ (by decide +kernel)) ggL_law_X7_session
set_option maxRecDepth 20000 in
theorem ggL_law_X8_session : GoodIn wsL_law wsX8_session := goodIn_r _ [502, 503, 212, 100, 504, 505, 506, 5, 507, 467, 468, 469, 470, 97, 217, 218, 219, 224, 225, 226, 227, 228, 229, 230, 411, 412, 413, 414, 508, 509, 510, 511, 415, 416, 417, 418, 512, 513, 514, 515, 963, 964, 965, 966, 967, 968, 969, 970, 971, 972, 973, 974, 975, 976, 977, 978, 979, 980] (by decide +kernel) (by decide +kernel)
set_option maxRecDepth 20000 in
theorem gL_law_X8_session : GoodIn wsL_law (wsV RL 47 RX8 yX8_session wsX8_session) := goodIn_app (goodIn_of _ (by decide +kernel)) ggL_law_X8_session
set_option maxRecDepth 20000 in
theorem ggL_law_X7_cancel : GoodIn wsL_law wsX7_cancel := goodIn_r _ [519, 15, 165, 282, 19, 281, 520, 521, 475, 476, 477, 14, 478, 479, 480, 452, 453, 454, 124, 49, 485, 486, 487, 51, 488, 140, 141, 109, 110, 111, 18, 112, 113, 74, 114, 115, 116, 117, 118, 119, 120, 121, 122, 123, 43, 125, 126, 127, 128, 45, 46, 47, 53, 129, 130, 131, 132, 61, 133, 134, 135, 136, 137, 138, 139, 142, 143, 144, 62, 145, 146, 147, 148, 55, 149, 68, 150, 493, 494, 495, 496, 497, 482, 483, 484, 498, 490, 491, 492, 245, 246, 247, 248, 249, 169, 170, 171, 957, 958, 959, 960, 961, 962, 981, 982, 983, 984, 985, 986, 987, 988, 989, 1008, 1009, 1010, 1011, 1012, 1013, 1014, 1015, 1016, 1017, 1018, 1019, 1020, 1021, 1022, 990, 991, 1023, 1024, 1025] (by decide +kernel) (by decide +kernel)
set_option maxRecDepth 20000 in
theorem gL_law_X7_cancel : GoodIn wsL_law (wsV RL 48 RX7 yX7_cancel wsX7_cancel) := goodIn_app (goodIn_of _ (by decide +kernel)) ggL_law_X7_cancel
set_option maxRecDepth 20000 in
theorem ggL_law_X8_cancel : GoodIn wsL_law wsX8_cancel := goodIn_r _ [525, 212, 388, 97, 504, 505, 506, 5, 507, 467, 468, 469, 470, 217, 218, 219, 224, 225, 226, 227, 228, 229, 230, 411, 412, 413, 414, 156, 157, 158, 159, 160, 98, 508, 509, 510, 511, 415, 416, 417, 418, 512, 513, 514, 515, 256, 257, 258, 259, 963, 964, 965, 966, 967, 968, 969, 970, 971, 972, 973, 974, 975, 976, 977, 978, 979, 980] (by decide +kernel) (by decide +kernel)
set_option maxRecDepth 20000 in
theorem gL_law_X8_cancel : GoodIn wsL_law (wsV RL 52 RX8 yX8_cancel wsX8_cancel) := goodIn_app (goodIn_of _ (by decide +kernel)) ggL_law_X8_cancel
set_option maxRecDepth 20000 in
theorem ggL_law_X7_price : GoodIn wsL_law wsX7_price := goodIn_r _ [529, 31, 280, 165, 15, 283, 284, 285, 30, 286, 287, 288, 289, 290, 291, 292, 293, 294, 295, 296, 297, 2, 298, 299, 300, 301, 302, 530, 356, 357, 14, 358, 311, 359, 360, 361, 362, 336, 333, 363, 364, 365, 366, 332, 43, 367, 368, 957, 958, 959, 960, 961, 962, 1001, 1002, 1003, 1004, 1005, 1006, 1007, 981, 982, 983, 984, 985, 986, 987, 988, 989] (by decide +kernel) (by decide +kernel)
set_option maxRecDepth 20000 in
theorem gL_law_X7_price : GoodIn wsL_law (wsV RL 53 RX7 yX7_price wsX7_price) := goodIn_app (goodIn_of _ (by decide +kernel)) ggL_law_X7_price
set_option maxRecDepth 20000 in
theorem ggL_law_X8_price : GoodIn wsL_law wsX8_price := goodIn_r _ [534, 270, 394, 212, 217, 218, 5, 219, 396, 397, 398, 423, 424, 425, 426, 427, 428, 429, 430, 97, 431, 432, 433, 963, 964, 965, 966, 967, 968, 969, 970, 971, 972, 973, 974, 975, 976, 977, 978, 979, 980] (by decide +kernel) (by decide +kernel)
set_option maxRecDepth 20000 in
theorem gL_law_X8_price : GoodIn wsL_law (wsV RL 57 RX8 yX8_price wsX8_price) := goodIn_app (goodIn_of _ (by decide +kernel)) ggL_law_X8_price
set_option maxRecDepth 20000 in
theorem ggL_law_X7_taken : GoodIn wsL_law wsX7_taken := goodIn_r _ [538, 165, 15, 296, 297, 2, 298, 539, 540, 541, 14, 542, 49, 331, 176, 335, 334, 318, 319, 320, 51, 321, 322, 323, 324, 325, 137, 138, 136, 141, 543, 544, 545, 364, 365, 366, 546, 547, 548, 957, 958, 959, 960, 961, 962, 981, 982, 983, 984, 985, 986, 987, 988, 989, 1008, 1009, 1010, 1011, 1012, 1013, 1014, 1015, 1016, 1017, 1018, 1019, 1020, 1021, 1022] (by decide +kernel) (by decide +kernel)
set_option maxRecDepth 20000 in
theorem gL_law_X7_taken : GoodIn wsL_law (wsV RL 58 RX7 yX7_taken wsX7_taken) := goodIn_app (goodIn_of _ (by decide +kernel)) ggL_law_X7_taken
set_option maxRecDepth 20000 in
theorem ggL_law_X8_taken : GoodIn wsL_law wsX8_taken := goodIn_r _ [552, 393, 270, 212, 97, 217, 218, 5, 219, 224, 225, 226, 227, 228, 229, 230, 415, 416, 417, 418, 963, 964, 965, 966, 967, 968, 969, 970, 971, 972, 973, 974, 975, 976, 977, 978, 979, 980] (by decide +kernel) (by decide +kernel)
set_option maxRecDepth 20000 in
theorem gL_law_X8_taken : GoodIn wsL_law (wsV RL 61 RX8 yX8_taken wsX8_taken) := goodIn_app (goodIn_of _ (by decide +kernel)) ggL_law_X8_taken
set_option maxRecDepth 20000 in
theorem ggL_law_X7_firstFree : GoodIn wsL_law wsX7_firstFree := goodIn_r _ [556, 15, 165, 281, 545, 364, 365, 366, 265, 442, 168, 169, 170, 14, 171, 123, 296, 297, 2, 298, 539, 540, 541, 542, 49, 331, 176, 335, 334, 318, 319, 320, 51, 321, 322, 323, 324, 325, 137, 138, 136, 141, 543, 544, 546, 547, 548, 557, 957, 958, 959, 960, 961, 962, 981, 982, 983, 984, 985, 986, 987, 988, 989, 1008, 1009, 1010, 1011, 1012, 1013, 1014, 1015, 1016, 1017, 1018, 1019, 1020, 1021, 1022] (by decide +kernel) (by decide +kernel)
set_option maxRecDepth 20000 in
theorem gL_law_X7_firstFree : GoodIn wsL_law (wsV RL 62 RX7 yX7_firstFree wsX7_firstFree) := goodIn_app (goodIn_of _ (by decide +kernel)) ggL_law_X7_firstFree
set_option maxRecDepth 20000 in
theorem ggL_law_X8_firstFree : GoodIn wsL_law wsX8_firstFree := goodIn_r _ [561, 270, 393, 466, 212, 97, 100, 213, 214, 215, 5, 216, 217, 218, 219, 403, 404, 405, 406, 224, 225, 226, 227, 228, 229, 230, 407, 408, 409, 410, 411, 412, 413, 414, 415, 416, 417, 418, 963, 964, 965, 966, 967, 968, 969, 970, 971, 972, 973, 974, 975, 976, 977, 978, 979, 980] (by decide +kernel) (by decide +kernel)
set_option maxRecDepth 20000 in
theorem gL_law_X8_firstFree : GoodIn wsL_law (wsV RL 66 RX8 yX8_firstFree wsX8_firstFree) := goodIn_app (goodIn_of _ (by decide +kernel)) ggL_law_X8_firstFree
set_option maxRecDepth 20000 in
theorem ggL_law_X7_inOrder : GoodIn wsL_law wsX7_inOrder := goodIn_r _ [565, 165, 15, 442, 566, 567, 568, 14, 569, 49, 318, 319, 320, 51, 321, 322, 323, 324, 325, 137, 138, 136, 141, 570, 571, 572, 573, 574, 575, 576, 577, 578, 337, 338, 339, 340, 134, 60, 341, 342, 343, 344, 196, 345, 957, 958, 959, 960, 961, 962, 981, 982, 983, 984, 985, 986, 987, 988, 989, 1008, 1009, 1010, 1011, 1012, 1013, 1014, 1015, 1016, 1017, 1018, 1019, 1020, 1021, 1022] (by decide +kernel) (by decide +kernel)
set_option maxRecDepth 20000 in
theorem gL_law_X7_inOrder : GoodIn wsL_law (wsV RL 67 RX7 yX7_inOrder wsX7_inOrder) := goodIn_app (goodIn_of _ (by decide +kernel)) ggL_law_X7_inOrder
set_option maxRecDepth 20000 in
theorem ggL_law_X8_inOrder : GoodIn wsL_law wsX8_inOrder := goodIn_r _ [582, 212, 97, 100, 504, 505, 506, 5, 507, 467, 468, 469, 470, 217, 218, 219, 224, 225, 226, 227, 228, 229, 230, 411, 412, 413, 414, 583, 584, 585, 586, 587, 588, 589, 590, 415, 416, 417, 418, 963, 964, 965, 966, 967, 968, 969, 970, 971, 972, 973, 974, 975, 976, 977, 978, 979, 980] (by decide +kernel) (by decide +kernel)
set_option maxRecDepth 20000 in
theorem gL_law_X8_inOrder : GoodIn wsL_law (wsV RL 70 RX8 yX8_inOrder wsX8_inOrder) := goodIn_app (goodIn_of _ (by decide +kernel)) ggL_law_X8_inOrder
set_option maxRecDepth 20000 in
theorem ggL_law_X7_pass : GoodIn wsL_law wsX7_pass := goodIn_r _ [594, 165, 15, 281, 108, 19, 109, 110, 111, 18, 112, 113, 74, 114, 115, 116, 117, 118, 119, 120, 14, 121, 122, 123, 124, 43, 125, 126, 127, 128, 45, 46, 47, 49, 53, 129, 130, 131, 51, 132, 61, 133, 134, 135, 136, 137, 138, 139, 140, 141, 142, 143, 144, 62, 145, 146, 147, 148, 55, 149, 68, 150, 595, 596, 597, 598, 599, 345, 323, 324, 325, 600, 601, 602, 603, 201, 480, 452, 453, 454, 604, 605, 606, 607, 608, 364, 365, 366, 609, 610, 611, 612, 613, 614, 547, 548, 176, 380, 381, 382, 383, 249, 169, 170, 171, 957, 958, 959, 960, 961, 962, 981, 982, 983, 984, 985, 986, 987, 988, 989, 990, 991, 1008, 1009, 1010, 1011, 1012, 1013, 1014, 1015, 1016, 1017, 1018, 1019, 1020, 1021, 1022, 1023, 1024, 1025] (by decide +kernel) (by decide +kernel)
set_option maxRecDepth 20000 in
theorem gL_law_X7_pass : GoodIn wsL_law (wsV RL 71 RX7 yX7_pass wsX7_pass) := goodIn_app (goodIn_of _ (by decide +kernel)) ggL_law_X7_pass
set_option maxRecDepth 20000 in
theorem ggL_law_X8_pass : GoodIn wsL_law wsX8_pass := goodIn_r _ [618, 395, 212, 97, 155, 217, 218, 5, 219, 156, 157, 158, 159, 160, 98, 619, 620, 621, 622, 504, 505, 506, 507, 467, 468, 469, 470, 224, 225, 226, 227, 228, 229, 230, 411, 412, 413, 414, 415, 416, 417, 418, 623, 624, 625, 626, 627, 628, 629, 630, 434, 435, 436, 437, 963, 964, 965, 966, 967, 968, 969, 970, 971, 972, 973, 974, 975, 976, 977, 978, 979, 980] (by decide +kernel) (by decide +kernel)
set_option maxRecDepth 20000 in
theorem gL_law_X8_pass : GoodIn wsL_law (wsV RL 74 RX8 yX8_pass wsX8_pass) := goodIn_app (goodIn_of _ (by decide +kernel)) ggL_law_X8_pass
set_option maxRecDepth 20000 in
theorem ggL_law_X7_count : GoodIn wsL_law wsX7_count := goodIn_r _ [634, 15, 281, 107, 635, 19, 636, 23, 637, 638, 639, 640, 14, 641, 49, 479, 642, 643, 186, 187, 188, 189, 190, 191, 455, 198, 199, 200, 53, 201, 644, 645, 646, 647, 122, 604, 605, 606, 55, 607, 68, 150, 608, 364, 365, 366, 648, 649, 650, 651, 652, 653, 654, 51, 655, 140, 133, 135, 134, 185, 656, 657, 658, 2, 659, 265, 660, 165, 957, 958, 959, 960, 961, 962, 981, 982, 983, 984, 985, 986, 987, 988, 989, 990, 991, 992, 993, 994, 1008, 1009, 1010, 1011, 1012, 1013, 1014, 1015, 1016, 1017, 1018, 1019, 1020, 1021, 1022, 1023, 1024, 1025] (by decide +kernel) (by decide +kernel)
set_option maxRecDepth 20000 in
theorem gL_law_X7_count : GoodIn wsL_law (wsV RL 75 RX7 yX7_count wsX7_count) := goodIn_app (goodIn_of _ (by decide +kernel)) ggL_law_X7_count
set_option maxRecDepth 20000 in
theorem ggL_law_X8_count : GoodIn wsL_law wsX8_count := goodIn_r _ [664, 665, 666, 97, 394, 667, 160, 668, 212, 217, 218, 5, 219, 669, 670, 671, 672, 224, 225, 226, 227, 228, 229, 230, 673, 674, 675, 231, 232, 233, 234, 676, 677, 678, 679, 623, 624, 625, 626, 963, 964, 965, 966, 967, 968, 969, 970, 971, 972, 973, 974, 975, 976, 977, 978, 979, 980] (by decide +kernel) (by decide +kernel)
set_option maxRecDepth 20000 in
theorem gL_law_X8_count : GoodIn wsL_law (wsV RL 78 RX8 yX8_count wsX8_count) := goodIn_app (goodIn_of _ (by decide +kernel)) ggL_law_X8_count
set_option maxRecDepth 20000 in
theorem ggL_law_X7_undo : GoodIn wsL_law wsX7_undo := goodIn_r _ [683, 19, 636, 282, 15, 684, 685, 686, 18, 687, 113, 74, 118, 119, 120, 14, 121, 122, 123, 124, 43, 125, 126, 127, 128, 45, 46, 47, 49, 53, 129, 130, 131, 51, 132, 61, 133, 134, 135, 136, 137, 138, 139, 140, 141, 142, 143, 144, 62, 145, 146, 147, 148, 55, 149, 68, 150, 957, 958, 959, 960, 961, 962, 990, 991, 981, 982, 983, 984, 985, 986, 987, 988, 989, 1008, 1009, 1010, 1011, 1012, 1013, 1014, 1015, 1016, 1017, 1018, 1019, 1020, 1021, 1022, 1023, 1024, 1025] (by decide +kernel) (by decide +kernel)
set_option maxRecDepth 20000 in
theorem gL_law_X7_undo : GoodIn wsL_law (wsV RL 79 RX7 yX7_undo wsX7_undo) := goodIn_app (goodIn_of _ (by decide +kernel)) ggL_law_X7_undo
set_option maxRecDepth 20000 in
theorem ggL_law_X8_undo : GoodIn wsL_law wsX8_undo := goodIn_r _ [691, 160, 388, 97, 98, 963, 964, 965, 966, 967, 968, 969, 970, 971, 972, 973, 974, 975, 976, 977, 978, 979, 980] (by decide +kernel) (by decide +kernel)
set_option maxRecDepth 20000 in
theorem gL_law_X8_undo : GoodIn wsL_law (wsV RL 82 RX8 yX8_undo wsX8_undo) := goodIn_app (goodIn_of _ (by decide +kernel)) ggL_law_X8_undo
set_option maxRecDepth 20000 in
theorem ggL_law_X7_lend : GoodIn wsL_law wsX7_lend := goodIn_r _ [695, 15, 165, 696, 697, 698, 282, 19, 265, 699, 700, 701, 702, 14, 703, 53, 451, 452, 453, 454, 124, 49, 704, 705, 706, 51, 707, 136, 708, 486, 487, 488, 140, 141, 497, 482, 483, 484, 137, 138, 109, 110, 111, 18, 112, 113, 74, 114, 115, 116, 117, 118, 119, 120, 121, 122, 123, 43, 125, 126, 127, 128, 45, 46, 47, 129, 130, 131, 132, 61, 133, 134, 135, 139, 142, 143, 144, 62, 145, 146, 147, 148, 55, 149, 68, 150, 957, 958, 959, 960, 961, 962, 1023, 1024, 1025, 1008, 1009, 1010, 1011, 1012, 1013, 1014, 1015, 1016, 1017, 1018, 1019, 1020, 1021, 1022, 981, 982, 983, 984, 985, 986, 987, 988, 989, 990, 991] (by decide +kernel) (by decide +kernel)
set_option maxRecDepth 20000 in
theorem gL_law_X7_lend : GoodIn wsL_law (wsV RL 83 RX7 yX7_lend wsX7_lend) := goodIn_app (goodIn_of _ (by decide +kernel)) ggL_law_X7_lend
set_option maxRecDepth 20000 in
theorem ggL_law_X8_lend : GoodIn wsL_law wsX8_lend := goodIn_r _ [712, 212, 97, 388, 713, 714, 5, 715, 716, 217, 218, 219, 467, 468, 469, 470, 717, 718, 719, 720, 224, 225, 226, 227, 228, 229, 230, 156, 157, 158, 159, 160, 98, 415, 416, 417, 418, 963, 964, 965, 966, 967, 968, 969, 970, 971, 972, 973, 974, 975, 976, 977, 978, 979, 980] (by decide +kernel) (by decide +kernel)
set_option maxRecDepth 20000 in
theorem gL_law_X8_lend : GoodIn wsL_law (wsV RL 86 RX8 yX8_lend wsX8_lend) := goodIn_app (goodIn_of _ (by decide +kernel)) ggL_law_X8_lend
set_option maxRecDepth 20000 in
theorem ggL_law_X7_bringBack : GoodIn wsL_law wsX7_bringBack := goodIn_r _ [724, 15, 165, 696, 282, 19, 281, 700, 701, 702, 14, 703, 53, 109, 110, 111, 18, 112, 113, 74, 114, 115, 116, 117, 118, 119, 120, 121, 122, 123, 124, 43, 125, 126, 127, 128, 45, 46, 47, 49, 129, 130, 131, 51, 132, 61, 133, 134, 135, 136, 137, 138, 139, 140, 141, 142, 143, 144, 62, 145, 146, 147, 148, 55, 149, 68, 150, 725, 605, 606, 607, 608, 364, 365, 366, 957, 958, 959, 960, 961, 962, 1023, 1024, 1025, 981, 982, 983, 984, 985, 986, 987, 988, 989, 990, 991, 1008, 1009, 1010, 1011, 1012, 1013, 1014, 1015, 1016, 1017, 1018, 1019, 1020, 1021, 1022] (by decide +kernel) (by decide +kernel)
set_option maxRecDepth 20000 in
theorem gL_law_X7_bringBack : GoodIn wsL_law (wsV RL 87 RX7 yX7_bringBack wsX7_bringBack) := goodIn_app (goodIn_of _ (by decide +kernel)) ggL_law_X7_bringBack
set_option maxRecDepth 20000 in
theorem ggL_law_X8_bringBack : GoodIn wsL_law wsX8_bringBack := goodIn_r _ [729, 212, 97, 388, 713, 714, 5, 715, 716, 217, 218, 219, 156, 157, 158, 159, 160, 98, 623, 624, 625, 626, 963, 964, 965, 966, 967, 968, 969, 970, 971, 972, 973, 974, 975, 976, 977, 978, 979, 980] (by decide +kernel) (by decide +kernel)
set_option maxRecDepth 20000 in
theorem gL_law_X8_bringBack : GoodIn wsL_law (wsV RL 90 RX8 yX8_bringBack wsX8_bringBack) := goodIn_app (goodIn_of _ (by decide +kernel)) ggL_law_X8_bringBack
set_option maxRecDepth 20000 in
theorem ggL_law_X7_key : GoodIn wsL_law wsX7_key := goodIn_r _ [733, 15, 165, 698, 696, 442, 521, 734, 699, 281, 700, 701, 702, 14, 703, 53, 451, 452, 453, 454, 124, 49, 725, 605, 606, 55, 607, 68, 150, 608, 364, 365, 366, 957, 958, 959, 960, 961, 962, 1023, 1024, 1025, 1008, 1009, 1010, 1011, 1012, 1013, 1014, 1015, 1016, 1017, 1018, 1019, 1020, 1021, 1022, 981, 982, 983, 984, 985, 986, 987, 988, 989] (by decide +kernel) (by decide +kernel)
set_option maxRecDepth 20000 in
theorem gL_law_X7_key : GoodIn wsL_law (wsV RL 91 RX7 yX7_key wsX7_key) := goodIn_app (goodIn_of _ (by decide +kernel)) ggL_law_X7_key
set_option maxRecDepth 20000 in
theorem ggL_law_X8_key : GoodIn wsL_law wsX8_key := goodIn_r _ [738, 739, 212, 97, 100, 713, 714, 5, 715, 716, 217, 218, 219, 224, 225, 226, 227, 228, 229, 230, 623, 624, 625, 626, 963, 964, 965, 966, 967, 968, 969, 970, 971, 972, 973, 974, 975, 976, 977, 978, 979, 980] (by decide +kernel) (by decide +kernel)
set_option maxRecDepth 20000 in
theorem gL_law_X8_key : GoodIn wsL_law (wsV RL 94 RX8 yX8_key wsX8_key) := goodIn_app (goodIn_of _ (by decide +kernel)) ggL_law_X8_key
set_option maxRecDepth 20000 in
theorem ggL_law_X7_report : GoodIn wsL_law wsX7_report := goodIn_r _ [743, 15, 165, 744, 282, 745, 108, 19, 475, 476, 477, 14, 478, 479, 480, 452, 453, 454, 124, 49, 485, 486, 487, 51, 488, 140, 141, 746, 747, 748, 749, 133, 109, 110, 111, 18, 112, 113, 74, 114, 115, 116, 117, 118, 119, 120, 121, 122, 123, 43, 125, 126, 127, 128, 45, 46, 47, 53, 129, 130, 131, 132, 61, 134, 135, 136, 137, 138, 139, 142, 143, 144, 62, 145, 146, 147, 148, 55, 149, 68, 150, 750, 751, 752, 753, 185, 186, 187, 188, 189, 190, 191, 754, 755, 756, 757, 758, 759, 760, 761, 762, 763, 610, 611, 612, 613, 614, 547, 365, 548, 176, 380, 381, 382, 383, 249, 169, 170, 171, 764, 765, 766, 767, 957, 958, 959, 960, 961, 962, 1008, 1009, 1010, 1011, 1012, 1013, 1014, 1015, 1016, 1017, 1018, 1019, 1020, 1021, 1022, 981, 982, 983, 984, 985, 986, 987, 988, 989, 990, 991, 1023, 1024, 1025] (by decide +kernel) (by decide +kernel)
set_option maxRecDepth 20000 in
theorem gL_law_X7_report : GoodIn wsL_law (wsV RL 95 RX7 yX7_report wsX7_report) := goodIn_app (goodIn_of _ (by decide +kernel)) ggL_law_X7_report
set_option maxRecDepth 20000 in
theorem ggL_law_X8_report : GoodIn wsL_law wsX8_report := goodIn_r _ [771, 503, 212, 388, 155, 97, 504, 505, 506, 5, 507, 467, 468, 469, 470, 217, 218, 219, 224, 225, 226, 227, 228, 229, 230, 411, 412, 413, 414, 156, 157, 158, 159, 160, 98, 772, 773, 774, 775, 673, 674, 675, 627, 628, 629, 630, 434, 435, 436, 437, 963, 964, 965, 966, 967, 968, 969, 970, 971, 972, 973, 974, 975, 976, 977, 978, 979, 980] (by decide +kernel) (by decide +kernel)
set_option maxRecDepth 20000 in
theorem gL_law_X8_report : GoodIn wsL_law (wsV RL 98 RX8 yX8_report wsX8_report) := goodIn_app (goodIn_of _ (by decide +kernel)) ggL_law_X8_report
set_option maxRecDepth 20000 in
theorem ggL_law_X7_fault : GoodIn wsL_law wsX7_fault := goodIn_r _ [779, 15, 165, 451, 452, 453, 14, 454, 124, 49, 780, 759, 760, 51, 761, 143, 762, 62, 957, 958, 959, 960, 961, 962, 981, 982, 983, 984, 985, 986, 987, 988, 989, 1008, 1009, 1010, 1011, 1012, 1013, 1014, 1015, 1016, 1017, 1018, 1019, 1020, 1021, 1022] (by decide +kernel) (by decide +kernel)
set_option maxRecDepth 20000 in
theorem gL_law_X7_fault : GoodIn wsL_law (wsV RL 99 RX7 yX7_fault wsX7_fault) := goodIn_app (goodIn_of _ (by decide +kernel)) ggL_law_X7_fault
set_option maxRecDepth 20000 in
theorem ggL_law_X8_fault : GoodIn wsL_law wsX8_fault := goodIn_r _ [784, 503, 212, 100, 467, 468, 469, 5, 470, 97, 217, 218, 219, 224, 225, 226, 227, 228, 229, 230, 963, 964, 965, 966, 967, 968, 969, 970, 971, 972, 973, 974, 975, 976, 977, 978, 979, 980] (by decide +kernel) (by decide +kernel)
set_option maxRecDepth 20000 in
theorem gL_law_X8_fault : GoodIn wsL_law (wsV RL 102 RX8 yX8_fault wsX8_fault) := goodIn_app (goodIn_of _ (by decide +kernel)) ggL_law_X8_fault
set_option maxRecDepth 20000 in
theorem ggL_law_X7_settle : GoodIn wsL_law wsX7_settle := goodIn_r _ [788, 15, 165, 744, 282, 19, 451, 452, 453, 14, 454, 124, 49, 789, 182, 183, 51, 184, 136, 140, 141, 185, 186, 187, 188, 189, 190, 191, 455, 198, 199, 200, 53, 201, 109, 110, 111, 18, 112, 113, 74, 114, 115, 116, 117, 118, 119, 120, 121, 122, 123, 43, 125, 126, 127, 128, 45, 46, 47, 129, 130, 131, 132, 61, 133, 134, 135, 137, 138, 139, 142, 143, 144, 62, 145, 146, 147, 148, 55, 149, 68, 150, 790, 791, 792, 793, 613, 794, 176, 795, 246, 247, 248, 249, 169, 170, 171, 957, 958, 959, 960, 961, 962, 1008, 1009, 1010, 1011, 1012, 1013, 1014, 1015, 1016, 1017, 1018, 1019, 1020, 1021, 1022, 981, 982, 983, 984, 985, 986, 987, 988, 989, 1023, 1024, 1025, 990, 991] (by decide +kernel) (by decide +kernel)
set_option maxRecDepth 20000 in
theorem gL_law_X7_settle : GoodIn wsL_law (wsV RL 103 RX7 yX7_settle wsX7_settle) := goodIn_app (goodIn_of _ (by decide +kernel)) ggL_law_X7_settle
set_option maxRecDepth 20000 in
theorem ggL_law_X8_settle : GoodIn wsL_law wsX8_settle := goodIn_r _ [799, 212, 388, 97, 467, 468, 469, 5, 470, 217, 218, 219, 224, 225, 226, 227, 228, 229, 230, 231, 232, 233, 234, 235, 236, 237, 238, 156, 157, 158, 159, 160, 98, 256, 257, 258, 259, 963, 964, 965, 966, 967, 968, 969, 970, 971, 972, 973, 974, 975, 976, 977, 978, 979, 980] (by decide +kernel) (by decide +kernel)
set_option maxRecDepth 20000 in
theorem gL_law_X8_settle : GoodIn wsL_law (wsV RL 106 RX8 yX8_settle wsX8_settle) := goodIn_app (goodIn_of _ (by decide +kernel)) ggL_law_X8_settle
set_option maxRecDepth 20000 in
theorem ggL_law_X7_type : GoodIn wsL_law wsX7_type := goodIn_r _ [803, 165, 23, 637, 108, 804, 805, 806, 22, 807, 808, 80, 957, 958, 959, 960, 961, 962, 992, 993, 994] (by decide +kernel) (by decide +kernel)
set_option maxRecDepth 20000 in
theorem gL_law_X7_type : GoodIn wsL_law (wsV RL 107 RX7 yX7_type wsX7_type) := goodIn_app (goodIn_of _ (by decide +kernel)) ggL_law_X7_type
set_option maxRecDepth 20000 in
theorem ggL_law_X8_type : GoodIn wsL_law wsX8_type := goodIn_r _ [812, 813, 814, 212, 668, 155, 102, 217, 218, 5, 219, 963, 964, 965, 966, 967, 968, 969, 970, 971, 972, 973, 974, 975, 976, 977, 978, 979, 980] (by decide +kernel) (by decide +kernel)
set_option maxRecDepth 20000 in
theorem gL_law_X8_type : GoodIn wsL_law (wsV RL 110 RX8 yX8_type wsX8_type) := goodIn_app (goodIn_of _ (by decide +kernel)) ggL_law_X8_type
set_option maxRecDepth 20000 in
theorem ggL_law_X7_clearText : GoodIn wsL_law wsX7_clearText := goodIn_r _ [818, 23, 637, 957, 958, 959, 960, 961, 962, 992, 993, 994] (by decide +kernel) (by decide +kernel)
set_option maxRecDepth 20000 in
theorem gL_law_X7_clearText : GoodIn wsL_law (wsV RL 111 RX7 yX7_clearText wsX7_clearText) := goodIn_app (goodIn_of _ (by decide +kernel)) ggL_law_X7_clearText
set_option maxRecDepth 20000 in
theorem ggL_law_X8_clearText : GoodIn wsL_law wsX8_clearText := goodIn_r _ [822, 668, 963, 964, 965, 966, 967, 968, 969, 970, 971, 972, 973, 974, 975, 976, 977, 978, 979, 980] (by decide +kernel) (by decide +kernel)
set_option maxRecDepth 20000 in
theorem gL_law_X8_clearText : GoodIn wsL_law (wsV RL 114 RX8 yX8_clearText wsX8_clearText) := goodIn_app (goodIn_of _ (by decide +kernel)) ggL_law_X8_clearText
set_option maxRecDepth 20000 in
theorem ggL_law_X7_textFault : GoodIn wsL_law wsX7_textFault := goodIn_r _ [826, 165, 27, 15, 23, 827, 442, 828, 829, 830, 831, 26, 832, 86, 833, 834, 835, 836, 88, 837, 119, 120, 14, 121, 122, 123, 124, 43, 125, 126, 127, 128, 45, 46, 47, 49, 53, 129, 130, 131, 51, 132, 61, 133, 134, 135, 136, 137, 138, 139, 140, 141, 142, 143, 144, 62, 145, 146, 147, 148, 55, 149, 68, 150, 838, 839, 840, 22, 841, 842, 808, 843, 844, 845, 846, 847, 848, 849, 850, 851, 852, 853, 854, 855, 856, 364, 365, 366, 857, 858, 859, 860, 861, 862, 863, 864, 80, 865, 866, 867, 868, 869, 870, 871, 872, 873, 874, 875, 876, 877, 878, 879, 880, 881, 882, 883, 884, 885, 886, 169, 170, 171, 887, 300, 301, 30, 302, 293, 287, 288, 294, 295, 888, 304, 305, 306, 889, 308, 309, 310, 311, 312, 313, 314, 315, 316, 317, 318, 319, 320, 321, 322, 323, 324, 325, 326, 327, 328, 329, 176, 330, 331, 332, 333, 334, 335, 336, 337, 338, 339, 340, 60, 341, 342, 343, 344, 196, 345, 890, 347, 348, 349, 891, 351, 352, 353, 354, 355, 356, 357, 358, 359, 360, 361, 362, 363, 367, 2, 368, 369, 370, 371, 372, 373, 374, 375, 376, 377, 378, 379, 380, 381, 382, 383, 249, 957, 958, 959, 960, 961, 962, 995, 996, 997, 998, 999, 1000, 992, 993, 994, 981, 982, 983, 984, 985, 986, 987, 988, 989, 1008, 1009, 1010, 1011, 1012, 1013, 1014, 1015, 1016, 1017, 1018, 1019, 1020, 1021, 1022, 1023, 1024, 1025, 1001, 1002, 1003, 1004, 1005, 1006, 1007] (by decide +kernel) (by decide +kernel)
set_option maxRecDepth 20000 in
theorem gL_law_X7_textFault : GoodIn wsL_law (wsV RL 115 RX7 yX7_textFault wsX7_textFault) := goodIn_app (goodIn_of _ (by decide +kernel)) ggL_law_X7_textFault
set_option maxRecDepth 20000 in
theorem ggL_law_X8_textFault : GoodIn wsL_law wsX8_textFault := goodIn_r _ [895, 212, 100, 896, 217, 218, 5, 219, 897, 898, 899, 900, 99, 97, 901, 902, 903, 904, 905, 906, 668, 907, 908, 909, 910, 911, 912, 913, 914, 915, 916, 917, 918, 919, 920, 921, 922, 923, 924, 925, 926, 927, 102, 928, 929, 930, 931, 932, 933, 934, 935, 936, 937, 938, 939, 394, 395, 393, 940, 213, 214, 215, 216, 399, 400, 401, 402, 403, 404, 405, 406, 224, 225, 226, 227, 228, 229, 230, 407, 408, 409, 410, 411, 412, 413, 414, 415, 416, 417, 418, 419, 420, 421, 422, 423, 424, 425, 426, 427, 428, 429, 430, 431, 432, 433, 434, 435, 436, 437, 941, 942, 943, 944, 963, 964, 965, 966, 967, 968, 969, 970, 971, 972, 973, 974, 975, 976, 977, 978, 979, 980] (by decide +kernel) (by decide +kernel)
set_option maxRecDepth 20000 in
theorem gL_law_X8_textFault : GoodIn wsL_law (wsV RL 118 RX8 yX8_textFault wsX8_textFault) := goodIn_app (goodIn_of _ (by decide +kernel)) ggL_law_X8_textFault
set_option maxRecDepth 20000 in
theorem ggL_law_X7_enter : GoodIn wsL_law wsX7_enter := goodIn_r _ [948, 27, 15, 23, 827, 949, 32, 282, 19, 950, 951, 829, 830, 831, 26, 832, 86, 833, 834, 835, 836, 88, 837, 119, 120, 14, 121, 122, 123, 124, 43, 125, 126, 127, 128, 45, 46, 47, 49, 53, 129, 130, 131, 51, 132, 61, 133, 134, 135, 136, 137, 138, 139, 140, 141, 142, 143, 144, 62, 145, 146, 147, 148, 55, 149, 68, 150, 838, 839, 840, 22, 841, 842, 808, 843, 844, 845, 846, 847, 848, 849, 850, 851, 852, 853, 854, 855, 856, 364, 365, 366, 857, 858, 859, 860, 861, 862, 863, 864, 80, 865, 866, 867, 868, 869, 870, 871, 872, 873, 874, 875, 876, 877, 878, 879, 880, 881, 882, 883, 884, 885, 886, 169, 170, 171, 887, 300, 301, 30, 302, 293, 287, 288, 294, 295, 888, 304, 305, 306, 889, 308, 309, 310, 311, 312, 313, 314, 315, 316, 317, 318, 319, 320, 321, 322, 323, 324, 325, 326, 327, 328, 329, 176, 330, 331, 332, 333, 334, 335, 336, 337, 338, 339, 340, 60, 341, 342, 343, 344, 196, 345, 890, 347, 348, 349, 891, 351, 352, 353, 354, 355, 356, 357, 358, 359, 360, 361, 362, 363, 367, 2, 368, 369, 370, 371, 372, 373, 374, 375, 376, 377, 378, 379, 380, 381, 382, 383, 249, 109, 110, 111, 18, 112, 113, 74, 114, 115, 116, 117, 118, 952, 957, 958, 959, 960, 961, 962, 995, 996, 997, 998, 999, 1000, 992, 993, 994, 981, 982, 983, 984, 985, 986, 987, 988, 989, 1008, 1009, 1010, 1011, 1012, 1013, 1014, 1015, 1016, 1017, 1018, 1019, 1020, 1021, 1022, 1023, 1024, 1025, 1001, 1002, 1003, 1004, 1005, 1006, 1007, 990, 991] (by decide +kernel) (by decide +kernel)
set_option maxRecDepth 20000 in
theorem gL_law_X7_enter : GoodIn wsL_law (wsV RL 119 RX7 yX7_enter wsX7_enter) := goodIn_app (goodIn_of _ (by decide +kernel)) ggL_law_X7_enter
set_option maxRecDepth 20000 in
theorem ggL_law_X8_enter : GoodIn wsL_law wsX8_enter := goodIn_r _ [956, 896, 940, 101, 388, 906, 897, 898, 899, 5, 900, 99, 97, 901, 902, 903, 904, 905, 668, 907, 908, 909, 910, 911, 912, 913, 914, 915, 916, 917, 918, 919, 920, 921, 922, 923, 924, 925, 926, 927, 102, 217, 218, 219, 928, 929, 930, 931, 932, 933, 934, 935, 936, 937, 938, 939, 394, 395, 393, 213, 214, 215, 216, 399, 400, 401, 402, 403, 404, 405, 406, 224, 225, 226, 227, 228, 229, 230, 407, 408, 409, 410, 411, 412, 413, 414, 415, 416, 417, 418, 419, 420, 421, 422, 423, 424, 425, 426, 427, 428, 429, 430, 431, 432, 433, 434, 435, 436, 437, 941, 942, 943, 944, 156, 157, 158, 159, 160, 98, 963, 964, 965, 966, 967, 968, 969, 970, 971, 972, 973, 974, 975, 976, 977, 978, 979, 980] (by decide +kernel) (by decide +kernel)
set_option maxRecDepth 20000 in
theorem gL_law_X8_enter : GoodIn wsL_law (wsV RL 122 RX8 yX8_enter wsX8_enter) := goodIn_app (goodIn_of _ (by decide +kernel)) ggL_law_X8_enter
