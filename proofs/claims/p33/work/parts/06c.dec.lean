theorem goodIn_cons_month {big a : List Cond} {c : Cond} (h1 : GoodIn big [c]) (h2 : GoodIn big a) : GoodIn big (c :: a) := fun w h => (List.mem_cons.mp h).elim (fun e => h1 w (List.mem_cons.mpr (Or.inl e))) (h2 w)
set_option maxRecDepth 20000 in
theorem gg_wsL_month_r1 : GoodIn wsL_law wsL_month_r1 := goodIn_r _ [113, 279, 280, 281, 2, 282, 14, 13, 18, 228, 103, 104, 12, 105, 106, 107, 37, 108, 109, 38, 39, 40, 41, 42] (by decide +kernel) (by decide +kernel)
set_option maxRecDepth 20000 in
theorem gg_wsL_month_r2 : GoodIn wsL_law wsL_month_r2 := goodIn_r _ [43, 44, 45, 46, 47, 48, 49, 283, 284, 285, 17, 286, 277, 287, 233, 234, 271, 236, 278, 288, 230, 231, 232, 54] (by decide +kernel) (by decide +kernel)
set_option maxRecDepth 20000 in
theorem gg_wsL_month_r3 : GoodIn wsL_law wsL_month_r3 := goodIn_r _ [53, 235, 237, 238, 239, 240, 241, 242, 243, 244, 245, 246, 247, 248, 148, 149, 150, 249, 169, 170, 289, 274, 275, 276] (by decide +kernel) (by decide +kernel)
set_option maxRecDepth 20000 in
theorem gg_wsL_month_r4 : GoodIn wsL_law wsL_month_r4 := goodIn_r _ [266, 251, 252, 253, 254, 255, 256, 257, 258, 267, 268, 269, 270, 272, 99, 100, 101, 290, 291, 292, 293, 294, 295, 296] (by decide +kernel) (by decide +kernel)
set_option maxRecDepth 20000 in
theorem gg_wsL_month_r5 : GoodIn wsL_law wsL_month_r5 := goodIn_r _ [297, 298, 299, 300, 301, 302, 303, 304, 305, 318, 319, 320, 321, 322, 229, 180, 181, 182, 183, 90, 91, 120, 184, 86] (by decide +kernel) (by decide +kernel)
set_option maxRecDepth 20000 in
theorem gg_wsL_month_r6 : GoodIn wsL_law wsL_month_r6 := goodIn_r _ [185, 186, 187, 188, 189, 190, 191, 192, 193, 194, 195, 196, 197, 198, 199, 200, 201, 202, 203, 204, 74, 205, 126, 127] (by decide +kernel) (by decide +kernel)
set_option maxRecDepth 20000 in
theorem gg_wsL_month_r7 : GoodIn wsL_law wsL_month_r7 := goodIn_r _ [128, 129, 130, 131, 132, 133, 134, 135, 136, 137, 138, 139, 140, 141, 142, 143, 144, 145, 146, 147, 323, 324, 325, 326] (by decide +kernel) (by decide +kernel)
set_option maxRecDepth 20000 in
theorem gg_wsL_month_r8 : GoodIn wsL_law wsL_month_r8 := goodIn_r _ [327, 328, 329, 330, 155, 331, 332, 333, 334, 335, 336, 337, 338, 339, 118, 119, 26, 92, 93, 94, 25, 95, 67, 96] (by decide +kernel) (by decide +kernel)
set_option maxRecDepth 20000 in
theorem gg_wsL_month_r9 : GoodIn wsL_law wsL_month_r9 := goodIn_r _ [97, 98, 102, 224, 225, 226, 227, 250, 259, 260, 261, 262, 263, 264, 265, 273] (by decide +kernel) (by decide +kernel)
set_option maxRecDepth 20000 in
theorem gg_month_X5 : GoodIn wsL_law wsX50 := goodIn_r _ [387, 388, 389, 390, 391, 392, 393, 394] (by decide +kernel) (by decide +kernel)
set_option maxRecDepth 20000 in
theorem gg_month_X3 : GoodIn wsL_law wsX30 := goodIn_r _ [395, 396, 397, 398, 399, 400, 401, 402, 403, 404, 405, 406, 407, 408, 409, 410, 411] (by decide +kernel) (by decide +kernel)
set_option maxRecDepth 20000 in
theorem gg_month_X1 : GoodIn wsL_law wsX10 := goodIn_r _ [412, 413, 414] (by decide +kernel) (by decide +kernel)
set_option maxRecDepth 20000 in
theorem gg_month_X0 : GoodIn wsL_law wsX00 := goodIn_r _ [417, 418, 419] (by decide +kernel) (by decide +kernel)
set_option maxRecDepth 20000 in
theorem ggL_law_L_month : GoodIn wsL_law wsL_month := goodIn_ca (goodIn_ca (goodIn_ca (goodIn_cons_month (goodIn_r _ [317] (by decide +kernel) (by decide +kernel)) (goodIn_app (goodIn_app (goodIn_app (goodIn_app (goodIn_app gg_wsL_month_r1 (goodIn_app gg_wsL_month_r2 (goodIn_app gg_wsL_month_r3 (goodIn_app gg_wsL_month_r4 (goodIn_app gg_wsL_month_r5 (goodIn_app gg_wsL_month_r6 (goodIn_app gg_wsL_month_r7 (goodIn_app gg_wsL_month_r8 gg_wsL_month_r9)))))))) gg_month_X5) gg_month_X3) gg_month_X1) gg_month_X0)) (goodIn_sub (fun _ h => List.mem_append_left _ (List.mem_append_left _ (List.mem_append_right _ h))) (by decide +kernel))) (goodIn_sub (fun _ h => List.mem_append_right _ h) (by decide +kernel))) (goodIn_sub (fun _ h => List.mem_append_left _ (List.mem_append_right _ h)) (by decide +kernel))
set_option maxRecDepth 20000 in
theorem gL_law_L_month : GoodIn wsL_law (va_wsS RL 102 yL_month wsL_month) := goodIn_app (goodIn_of _ (by decide +kernel)) ggL_law_L_month
