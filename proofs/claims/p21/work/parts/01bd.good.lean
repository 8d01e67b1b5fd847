set_option maxRecDepth 100000 in
theorem gq_L_isPort_L_does_0 : GoodIn wsL_isPort [.codeWith yL_does cL_does 8 (some .int) [(0, 268, 269, 72), (0, 268, 275, 74), (0, 268, 281, 76)]] := goodIn_r _ [4] rfl (by decide +kernel)
set_option maxRecDepth 100000 in
theorem gq_L_isPort_L_does_1 : GoodIn wsL_isPort wsL_does_r1 := goodIn_r _ [5, 6, 7, 8, 9, 10, 11, 12, 13, 14, 15, 16, 17, 18, 19, 20, 21, 22, 23, 24, 25, 26, 27, 28] (by decide +kernel) (by decide +kernel)
set_option maxRecDepth 100000 in
theorem gq_L_isPort_L_does_2 : GoodIn wsL_isPort wsL_does_r2 := goodIn_r _ [29, 30, 31, 32, 33, 34, 35, 36, 37, 38, 39, 40, 41, 42, 43, 44, 45, 46, 47, 48, 49, 50, 51, 52] (by decide +kernel) (by decide +kernel)
set_option maxRecDepth 100000 in
theorem gq_L_isPort_L_does_3 : GoodIn wsL_isPort wsL_does_r3 := goodIn_r _ [53, 54, 55, 56, 57, 58, 59, 60, 61, 62, 63, 64, 65, 66, 67, 68, 69, 70, 71, 72, 73, 74, 75, 76] (by decide +kernel) (by decide +kernel)
set_option maxRecDepth 100000 in
theorem gq_L_isPort_L_does_4 : GoodIn wsL_isPort wsL_does_r4 := goodIn_r _ [77, 78, 79, 80, 81, 82, 83, 84, 85, 86, 87, 88, 89, 90, 91, 92, 93, 94, 95, 96, 97, 98, 99, 100] (by decide +kernel) (by decide +kernel)
set_option maxRecDepth 100000 in
theorem gq_L_isPort_L_does_5 : GoodIn wsL_isPort wsL_does_r5 := goodIn_r _ [101, 102, 103, 104, 105, 106, 107, 108, 109, 110, 111, 112, 113, 114, 115, 116, 117, 118, 119, 120, 121, 122, 123, 124] (by decide +kernel) (by decide +kernel)
set_option maxRecDepth 100000 in
theorem gq_L_isPort_L_does_6 : GoodIn wsL_isPort wsL_does_r6 := goodIn_r _ [125, 126, 127, 128, 129, 130, 131, 132, 133, 134, 135, 136, 137, 138, 139, 140, 3, 141, 142, 143, 144, 145, 146, 147] (by decide +kernel) (by decide +kernel)
set_option maxRecDepth 100000 in
theorem gq_L_isPort_L_does_7 : GoodIn wsL_isPort wsL_does_r7 := goodIn_r _ [148, 149, 150, 151, 152, 153, 154, 155, 156, 157, 158, 159, 160, 161, 162, 163, 164, 165, 166, 167, 168, 169, 170, 171] (by decide +kernel) (by decide +kernel)
set_option maxRecDepth 100000 in
theorem gq_L_isPort_L_does_8 : GoodIn wsL_isPort wsL_does_r8 := goodIn_r _ [172, 173, 174, 175, 176, 177, 178, 179, 180, 181, 182, 183, 184, 185, 186, 187, 188, 189, 190, 191, 192, 193, 194, 195] (by decide +kernel) (by decide +kernel)
set_option maxRecDepth 100000 in
theorem gq_L_isPort_L_does_9 : GoodIn wsL_isPort wsL_does_r9 := goodIn_r _ [196, 197, 198, 199, 200, 201, 202, 203, 204, 205, 206, 207, 208, 209, 210, 211, 212, 213, 214, 215, 216, 217, 218, 219] (by decide +kernel) (by decide +kernel)
set_option maxRecDepth 100000 in
theorem gq_L_isPort_L_does_10 : GoodIn wsL_isPort wsL_does_r10 := goodIn_r _ [220, 221, 222, 223, 224, 225, 226, 227, 228, 229, 230, 231, 232, 233, 234, 235, 236, 237, 238, 239, 240, 241, 242, 243] (by decide +kernel) (by decide +kernel)
set_option maxRecDepth 100000 in
theorem gq_L_isPort_L_does_11 : GoodIn wsL_isPort wsL_does_r11 := goodIn_r _ [244, 245, 246, 247, 248, 249, 250, 251, 252, 253, 254, 255, 256, 257, 258, 259, 260, 261, 262, 263, 264, 265, 266, 267] (by decide +kernel) (by decide +kernel)
set_option maxRecDepth 100000 in
theorem gq_L_isPort_L_does_12 : GoodIn wsL_isPort wsL_does_r12 := goodIn_r _ [268, 269, 270, 271, 272, 273, 274, 275, 276, 277, 278, 279, 280, 281, 282, 283, 284, 285, 286, 287, 288, 289, 290, 291] (by decide +kernel) (by decide +kernel)
set_option maxRecDepth 100000 in
theorem gq_L_isPort_L_does_13 : GoodIn wsL_isPort wsL_does_r13 := goodIn_r _ [292, 293, 294, 295, 296, 297, 298, 299, 300, 301, 302, 303, 304, 305, 306, 307, 308, 309, 310, 311, 312, 313, 314, 315] (by decide +kernel) (by decide +kernel)
set_option maxRecDepth 100000 in
theorem gq_L_isPort_L_does_14 : GoodIn wsL_isPort wsL_does_r14 := goodIn_r _ [316, 317, 318, 319, 320, 321, 322, 323, 324, 325, 326, 327, 328, 329, 330, 331, 332, 333, 334, 335, 336, 337, 338, 339] (by decide +kernel) (by decide +kernel)
set_option maxRecDepth 100000 in
theorem gq_L_isPort_L_does_15 : GoodIn wsL_isPort wsL_does_r15 := goodIn_r _ [340, 341, 342, 343, 344, 345, 346, 347, 348, 349, 350, 351, 352, 353, 354, 355, 356, 357, 358, 359, 360, 361, 362, 363] (by decide +kernel) (by decide +kernel)
set_option maxRecDepth 100000 in
theorem gq_L_isPort_L_does_16 : GoodIn wsL_isPort wsL_does_r16 := goodIn_r _ [364, 365, 366, 367, 368, 369, 370, 371, 372, 373, 374, 375, 376, 377, 378, 379, 380, 381, 382] (by decide +kernel) (by decide +kernel)
set_option maxRecDepth 100000 in
theorem ggL_isPort_L_does : GoodIn wsL_isPort wsL_does := (goodIn_ca (goodIn_ca (goodIn_ca (goodIn_ca (goodIn_ca (goodIn_ca (goodIn_ca (goodIn_ca (goodIn_ca (goodIn_app (a := [.codeWith yL_does cL_does 8 (some .int) [(0, 268, 269, 72), (0, 268, 275, 74), (0, 268, 281, 76)]]) gq_L_isPort_L_does_0 (goodIn_app gq_L_isPort_L_does_1 (goodIn_app gq_L_isPort_L_does_2 (goodIn_app gq_L_isPort_L_does_3 (goodIn_app gq_L_isPort_L_does_4 (goodIn_app gq_L_isPort_L_does_5 (goodIn_app gq_L_isPort_L_does_6 (goodIn_app gq_L_isPort_L_does_7 (goodIn_app gq_L_isPort_L_does_8 (goodIn_app gq_L_isPort_L_does_9 (goodIn_app gq_L_isPort_L_does_10 (goodIn_app gq_L_isPort_L_does_11 (goodIn_app gq_L_isPort_L_does_12 (goodIn_app gq_L_isPort_L_does_13 (goodIn_app gq_L_isPort_L_does_14 (goodIn_app gq_L_isPort_L_does_15 gq_L_isPort_L_does_16)))))))))))))))) (goodIn_sub (by decide +kernel) (by decide +kernel))) (goodIn_sub (by decide +kernel) (by decide +kernel))) (goodIn_sub (by decide +kernel) (by decide +kernel))) (goodIn_sub (by decide +kernel) (by decide +kernel))) (goodIn_sub (by decide +kernel) (by decide +kernel))) (goodIn_sub (by decide +kernel) (by decide +kernel))) (goodIn_sub (by decide +kernel) (by decide +kernel))) (goodIn_sub (by decide +kernel) (by decide +kernel))) (goodIn_sub (by decide +kernel) (by decide +kernel)))
