set_option maxRecDepth 100000 in
theorem gq_L_law_L_isPort_0 : GoodIn wsL_law [.code yL_isPort cL_isPort 14 (some .boolean)] := goodIn_r _ [447] rfl (by decide +kernel)
set_option maxRecDepth 100000 in
theorem gq_L_law_L_isPort_1 : GoodIn wsL_law wsL_isPort_r1 := goodIn_r _ [186, 187, 188, 189, 190, 191, 192, 193, 194, 195, 2, 196, 197, 198, 199, 200, 15, 201, 202, 203, 204, 205, 206, 207] rfl (by decide +kernel)
set_option maxRecDepth 100000 in
theorem gq_L_law_L_isPort_2 : GoodIn wsL_law wsL_isPort_r2 := goodIn_r _ [208, 209, 210, 211, 212, 213, 130, 131, 214, 215, 216, 14, 217, 41, 43, 218, 219, 220, 221, 42, 222, 223, 224, 225] (by decide +kernel) (by decide +kernel)
set_option maxRecDepth 100000 in
theorem gq_L_law_L_isPort_3 : GoodIn wsL_law wsL_isPort_r3 := goodIn_r _ [226, 227, 228, 229, 230, 231, 19, 28, 232, 123, 124, 18, 125, 57, 58, 59, 233, 234, 235, 27, 236, 77, 237, 238] (by decide +kernel) (by decide +kernel)
set_option maxRecDepth 100000 in
theorem gq_L_law_L_isPort_4 : GoodIn wsL_law wsL_isPort_r4 := goodIn_r _ [239, 240, 79, 241, 242, 243, 244, 45, 245, 246, 247, 248, 249, 250, 251, 252, 253, 254, 255, 256, 257, 258, 259, 260] (by decide +kernel) (by decide +kernel)
set_option maxRecDepth 100000 in
theorem gq_L_law_L_isPort_5 : GoodIn wsL_law wsL_isPort_r5 := goodIn_r _ [261, 262, 263, 174, 175, 176, 66, 177, 109, 110, 111, 112, 55, 264, 265, 266, 267, 268, 269, 270, 271, 272, 273, 274] (by decide +kernel) (by decide +kernel)
set_option maxRecDepth 100000 in
theorem gq_L_law_L_isPort_6 : GoodIn wsL_law wsL_isPort_r6 := goodIn_r _ [170, 171, 172, 173, 275, 276, 277, 278, 279, 119, 120, 121, 122, 280, 281, 282, 283, 284, 285, 286, 287, 288, 289, 290] (by decide +kernel) (by decide +kernel)
set_option maxRecDepth 100000 in
theorem gq_L_law_L_isPort_7 : GoodIn wsL_law wsL_isPort_r7 := goodIn_r _ [291, 24, 292, 293, 294, 295, 296, 23, 297, 298, 299, 300, 301, 71, 72, 302, 303, 304, 305, 306, 307, 308, 309, 310] (by decide +kernel) (by decide +kernel)
set_option maxRecDepth 100000 in
theorem gq_L_law_L_isPort_8 : GoodIn wsL_law wsL_isPort_r8 := goodIn_r _ [311, 312, 36, 313, 314, 315, 316, 317, 318, 319, 320, 321, 33, 322, 323, 96, 97, 98, 99, 95, 64, 100, 101, 102] (by decide +kernel) (by decide +kernel)
set_option maxRecDepth 100000 in
theorem gq_L_law_L_isPort_9 : GoodIn wsL_law wsL_isPort_r9 := goodIn_r _ [103, 60, 104, 51, 61, 52, 62, 53, 105, 106, 107, 108, 113, 114, 115, 116, 63, 117, 118, 126, 127, 128, 129, 54] (by decide +kernel) (by decide +kernel)
set_option maxRecDepth 100000 in
theorem gq_L_law_L_isPort_10 : GoodIn wsL_law wsL_isPort_r10 := goodIn_r _ [132, 133, 134, 135, 136, 137, 138, 139, 140, 141, 142, 143, 144, 46, 145, 146, 147, 148, 149, 150, 151, 152, 153, 154] (by decide +kernel) (by decide +kernel)
set_option maxRecDepth 100000 in
theorem gq_L_law_L_isPort_11 : GoodIn wsL_law wsL_isPort_r11 := goodIn_r _ [155, 156, 157, 158, 159, 160, 161, 162, 163, 164, 165, 166, 167, 168, 169, 324, 325, 326, 327, 328, 329, 330, 331, 78] (by decide +kernel) (by decide +kernel)
set_option maxRecDepth 100000 in
theorem gq_L_law_L_isPort_12 : GoodIn wsL_law wsL_isPort_r12 := goodIn_r _ [332, 333, 334, 335, 32, 336, 337, 338, 339, 31, 340, 341, 342, 343, 344, 345, 83, 84, 85, 86, 346, 347, 348, 349] (by decide +kernel) (by decide +kernel)
set_option maxRecDepth 100000 in
theorem gq_L_law_L_isPort_13 : GoodIn wsL_law wsL_isPort_r13 := goodIn_r _ [350, 351, 352, 353, 354, 355, 356, 357, 358, 359, 360, 361, 362, 363, 364, 365, 366, 367, 368, 369, 370, 371, 372, 373] (by decide +kernel) (by decide +kernel)
set_option maxRecDepth 100000 in
theorem gq_L_law_L_isPort_14 : GoodIn wsL_law wsL_isPort_r14 := goodIn_r _ [374, 375, 376, 377, 378, 379, 380, 381, 382, 383, 384, 385, 386, 387, 388, 389, 390, 391, 392, 34, 35, 393, 394, 395] (by decide +kernel) (by decide +kernel)
set_option maxRecDepth 100000 in
theorem gq_L_law_L_isPort_15 : GoodIn wsL_law wsL_isPort_r15 := goodIn_r _ [396, 397, 398, 399, 400, 401, 402, 403, 404, 405, 406, 407, 408, 409, 410, 411, 412, 413, 414, 415, 416, 417, 418, 419] (by decide +kernel) (by decide +kernel)
set_option maxRecDepth 100000 in
theorem gq_L_law_L_isPort_16 : GoodIn wsL_law wsL_isPort_r16 := goodIn_r _ [420, 421, 422, 423, 424, 425, 426, 427, 65, 428, 429, 430, 431, 432, 433, 434, 435, 436, 437, 438, 439, 440] (by decide +kernel) (by decide +kernel)
set_option maxRecDepth 100000 in
theorem ggL_law_L_isPort : GoodIn wsL_law wsL_isPort := (goodIn_ca (goodIn_ca (goodIn_ca (goodIn_ca (goodIn_ca (goodIn_ca (goodIn_ca (goodIn_ca (goodIn_ca (goodIn_app (a := [.code yL_isPort cL_isPort 14 (some .boolean)]) gq_L_law_L_isPort_0 (goodIn_app gq_L_law_L_isPort_1 (goodIn_app gq_L_law_L_isPort_2 (goodIn_app gq_L_law_L_isPort_3 (goodIn_app gq_L_law_L_isPort_4 (goodIn_app gq_L_law_L_isPort_5 (goodIn_app gq_L_law_L_isPort_6 (goodIn_app gq_L_law_L_isPort_7 (goodIn_app gq_L_law_L_isPort_8 (goodIn_app gq_L_law_L_isPort_9 (goodIn_app gq_L_law_L_isPort_10 (goodIn_app gq_L_law_L_isPort_11 (goodIn_app gq_L_law_L_isPort_12 (goodIn_app gq_L_law_L_isPort_13 (goodIn_app gq_L_law_L_isPort_14 (goodIn_app gq_L_law_L_isPort_15 gq_L_law_L_isPort_16)))))))))))))))) (goodIn_sub (by decide +kernel) (by decide +kernel))) (goodIn_sub (by decide +kernel) (by decide +kernel))) (goodIn_sub (by decide +kernel) (by decide +kernel))) (goodIn_sub (by decide +kernel) (by decide +kernel))) (goodIn_sub (by decide +kernel) (by decide +kernel))) (goodIn_sub (by decide +kernel) (by decide +kernel))) (goodIn_sub (by decide +kernel) (by decide +kernel))) (goodIn_sub (by decide +kernel) (by decide +kernel))) (goodIn_sub (by decide +kernel) (by decide +kernel)))
