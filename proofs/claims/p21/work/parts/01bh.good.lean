set_option maxRecDepth 100000 in
theorem gq_L_law_L_areAll_0 : GoodIn wsL_law [.code yL_areAll cL_areAll 14 (some .boolean)] := goodIn_r _ [453] rfl (by decide +kernel)
set_option maxRecDepth 100000 in
theorem gq_L_law_L_areAll_1 : GoodIn wsL_law wsL_areAll_r1 := goodIn_r _ [406, 407, 408, 2, 409, 197, 198, 19, 352, 410, 33, 202, 203, 204, 205, 206, 207, 208, 209, 213, 130, 131, 273, 110] (by decide +kernel) (by decide +kernel)
set_option maxRecDepth 100000 in
theorem gq_L_law_L_areAll_2 : GoodIn wsL_law wsL_areAll_r2 := goodIn_r _ [111, 18, 112, 55, 411, 412, 413, 414, 28, 292, 293, 294, 256, 257, 258, 373, 374, 375, 27, 376, 77, 370, 371, 372] (by decide +kernel) (by decide +kernel)
set_option maxRecDepth 100000 in
theorem gq_L_law_L_areAll_3 : GoodIn wsL_law wsL_areAll_r3 := goodIn_r _ [397, 398, 399, 400, 401, 402, 403, 404, 405, 419, 420, 421, 422, 423, 15, 424, 425, 426, 427, 65, 66, 104, 136, 105] (by decide +kernel) (by decide +kernel)
set_option maxRecDepth 100000 in
theorem gq_L_law_L_areAll_4 : GoodIn wsL_law wsL_areAll_r4 := goodIn_r _ [106, 107, 108, 109, 428, 429, 430, 431, 432, 142, 143, 14, 144, 46, 454, 455, 188, 456, 3, 457, 458, 459, 460, 461] (by decide +kernel) (by decide +kernel)
set_option maxRecDepth 100000 in
theorem gq_L_law_L_areAll_5 : GoodIn wsL_law wsL_areAll_r5 := goodIn_r _ [462, 463, 415, 416, 417, 418, 35, 34] (by decide +kernel) (by decide +kernel)
set_option maxRecDepth 100000 in
theorem ggL_law_L_areAll : GoodIn wsL_law wsL_areAll := (goodIn_ca (goodIn_ca (goodIn_ca (goodIn_ca (goodIn_ca (goodIn_ca (goodIn_app (a := [.code yL_areAll cL_areAll 14 (some .boolean)]) gq_L_law_L_areAll_0 (goodIn_app gq_L_law_L_areAll_1 (goodIn_app gq_L_law_L_areAll_2 (goodIn_app gq_L_law_L_areAll_3 (goodIn_app gq_L_law_L_areAll_4 gq_L_law_L_areAll_5))))) (goodIn_sub (by decide +kernel) (by decide +kernel))) (goodIn_sub (by decide +kernel) (by decide +kernel))) (goodIn_sub (by decide +kernel) (by decide +kernel))) (goodIn_sub (by decide +kernel) (by decide +kernel))) (goodIn_sub (by decide +kernel) (by decide +kernel))) (goodIn_sub (by decide +kernel) (by decide +kernel)))
