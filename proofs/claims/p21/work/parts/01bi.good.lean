set_option maxRecDepth 100000 in
theorem gq_L_law_L_isTree_0 : GoodIn wsL_law [.code yL_isTree cL_isTree 11 (some .boolean)] := goodIn_r _ [466] rfl (by decide +kernel)
set_option maxRecDepth 100000 in
theorem gq_L_law_L_isTree_1 : GoodIn wsL_law wsL_isTree_r1 := goodIn_r _ [397, 398, 399, 2, 400, 197, 198, 19, 401, 402, 403, 404, 28, 405, 207, 208, 209, 205, 206, 454, 455, 188, 456, 3] (by decide +kernel) (by decide +kernel)
set_option maxRecDepth 100000 in
theorem gq_L_law_L_isTree_2 : GoodIn wsL_law wsL_isTree_r2 := goodIn_r _ [457, 458, 459, 460, 406, 407, 408, 409, 352, 410, 33, 202, 203, 204, 213, 130, 131, 273, 110, 111, 18, 112, 55, 461] (by decide +kernel) (by decide +kernel)
set_option maxRecDepth 100000 in
theorem gq_L_law_L_isTree_3 : GoodIn wsL_law wsL_isTree_r3 := goodIn_r _ [462, 463] (by decide +kernel) (by decide +kernel)
set_option maxRecDepth 100000 in
theorem ggL_law_L_isTree : GoodIn wsL_law wsL_isTree := (goodIn_ca (goodIn_ca (goodIn_ca (goodIn_ca (goodIn_ca (goodIn_app (a := [.code yL_isTree cL_isTree 11 (some .boolean)]) gq_L_law_L_isTree_0 (goodIn_app gq_L_law_L_isTree_1 (goodIn_app gq_L_law_L_isTree_2 gq_L_law_L_isTree_3))) (goodIn_sub (by decide +kernel) (by decide +kernel))) (goodIn_sub (by decide +kernel) (by decide +kernel))) (goodIn_sub (by decide +kernel) (by decide +kernel))) (goodIn_sub (by decide +kernel) (by decide +kernel))) (goodIn_sub (by decide +kernel) (by decide +kernel)))
