theorem goodIn_cons_inTheEnd {big a : List Cond} {c : Cond} (h1 : GoodIn big [c]) (h2 : GoodIn big a) : GoodIn big (c :: a) := fun w h => (List.mem_cons.mp h).elim (fun e => h1 w (List.mem_cons.mpr (Or.inl e))) (h2 w)
set_option maxRecDepth 20000 in
theorem gg_wsL_inTheEnd_r1 : GoodIn wsL_law wsL_inTheEnd_r1 := goodIn_r _ [343, 344, 345, 2, 346, 14, 13, 18, 130, 141, 142, 143, 144, 145, 146, 147, 148, 149, 12, 150, 106, 228, 103, 104] (by decide +kernel) (by decide +kernel)
set_option maxRecDepth 20000 in
theorem gg_wsL_inTheEnd_r2 : GoodIn wsL_law wsL_inTheEnd_r2 := goodIn_r _ [105, 107, 37, 108, 109, 38, 39, 40, 41, 42, 43, 44, 45, 46, 47, 48, 49, 195, 196, 197, 198, 331, 332, 333] (by decide +kernel) (by decide +kernel)
set_option maxRecDepth 20000 in
theorem gg_wsL_inTheEnd_r3 : GoodIn wsL_law wsL_inTheEnd_r3 := goodIn_r _ [334, 335, 188, 189, 190, 283, 284, 285, 17, 286, 277, 287, 233, 234, 271, 236, 278, 288, 230, 231, 232, 54, 53, 235] (by decide +kernel) (by decide +kernel)
set_option maxRecDepth 20000 in
theorem gg_wsL_inTheEnd_r4 : GoodIn wsL_law wsL_inTheEnd_r4 := goodIn_r _ [237, 238, 239, 240, 241, 242, 243, 244, 245, 246, 247, 248, 249, 169, 170, 289, 274, 275, 276, 266, 251, 252, 253, 254] (by decide +kernel) (by decide +kernel)
set_option maxRecDepth 20000 in
theorem gg_wsL_inTheEnd_r5 : GoodIn wsL_law wsL_inTheEnd_r5 := goodIn_r _ [255, 256, 257, 258, 267, 268, 269, 270, 272, 99, 100, 101, 290, 291, 292, 293, 294, 295, 296, 297, 298, 299, 300, 301] (by decide +kernel) (by decide +kernel)
set_option maxRecDepth 20000 in
theorem gg_wsL_inTheEnd_r6 : GoodIn wsL_law wsL_inTheEnd_r6 := goodIn_r _ [302, 303, 304, 305, 180, 181, 182, 183, 90, 91, 120, 184, 86, 185, 186, 187, 191, 192, 193, 194, 199, 200, 201, 202] (by decide +kernel) (by decide +kernel)
set_option maxRecDepth 20000 in
theorem gg_wsL_inTheEnd_r7 : GoodIn wsL_law wsL_inTheEnd_r7 := goodIn_r _ [336, 337, 338, 339, 118, 119, 26, 92, 93, 94, 25, 95, 67, 96, 97, 98, 102, 126, 127, 128, 129, 131, 132, 133] (by decide +kernel) (by decide +kernel)
set_option maxRecDepth 20000 in
theorem gg_wsL_inTheEnd_r8 : GoodIn wsL_law wsL_inTheEnd_r8 := goodIn_r _ [134, 135, 136, 137, 138, 139, 140, 306, 307, 308, 309, 310, 311, 312, 313, 314] (by decide +kernel) (by decide +kernel)
set_option maxRecDepth 20000 in
theorem gg_inTheEnd_X5 : GoodIn wsL_law wsX50 := goodIn_r _ [387, 388, 389, 390, 391, 392, 393, 394] (by decide +kernel) (by decide +kernel)
set_option maxRecDepth 20000 in
theorem gg_inTheEnd_X3 : GoodIn wsL_law wsX30 := goodIn_r _ [395, 396, 397, 398, 399, 400, 401, 402, 403, 404, 405, 406, 407, 408, 409, 410, 411] (by decide +kernel) (by decide +kernel)
set_option maxRecDepth 20000 in
theorem gg_inTheEnd_X1 : GoodIn wsL_law wsX10 := goodIn_r _ [412, 413, 414] (by decide +kernel) (by decide +kernel)
set_option maxRecDepth 20000 in
theorem gg_inTheEnd_X0 : GoodIn wsL_law wsX00 := goodIn_r _ [417, 418, 419] (by decide +kernel) (by decide +kernel)
set_option maxRecDepth 20000 in
theorem ggL_law_L_inTheEnd : GoodIn wsL_law wsL_inTheEnd := goodIn_ca (goodIn_ca (goodIn_ca (goodIn_cons_inTheEnd (goodIn_r _ [342] (by decide +kernel) (by decide +kernel)) (goodIn_app (goodIn_app (goodIn_app (goodIn_app (goodIn_app gg_wsL_inTheEnd_r1 (goodIn_app gg_wsL_inTheEnd_r2 (goodIn_app gg_wsL_inTheEnd_r3 (goodIn_app gg_wsL_inTheEnd_r4 (goodIn_app gg_wsL_inTheEnd_r5 (goodIn_app gg_wsL_inTheEnd_r6 (goodIn_app gg_wsL_inTheEnd_r7 gg_wsL_inTheEnd_r8))))))) gg_inTheEnd_X5) gg_inTheEnd_X3) gg_inTheEnd_X1) gg_inTheEnd_X0)) (goodIn_sub (fun _ h => List.mem_append_right _ h) (by decide +kernel))) (goodIn_sub (fun _ h => List.mem_append_left _ (List.mem_append_left _ (List.mem_append_right _ h))) (by decide +kernel))) (goodIn_sub (fun _ h => List.mem_append_left _ (List.mem_append_right _ h)) (by decide +kernel))
set_option maxRecDepth 20000 in
theorem gL_law_L_inTheEnd : GoodIn wsL_law (va_wsS RL 105 yL_inTheEnd wsL_inTheEnd) := goodIn_app (goodIn_of _ (by decide +kernel)) ggL_law_L_inTheEnd
