set_option maxRecDepth 20000 in
theorem hL_X6_init_0 : GoodIn wsL_law (Cond.code yX6_init cX6_init 1 none :: wsX6_init_r1) := goodIn_r _ [8, 9, 10, 11, 12, 13, 14, 15, 16, 17, 18, 19, 20, 21, 22, 23, 24, 25, 26, 27, 28, 29, 30, 31, 32] (by decide +kernel) (by decide +kernel)
set_option maxRecDepth 20000 in
theorem hL_X6_init_1 : GoodIn wsL_law wsX6_init_r2 := goodIn_r _ [33, 34, 35, 36, 37, 38, 39, 40, 41, 42, 43, 44, 45, 46, 47, 48, 49, 50, 51, 52, 53, 54, 55, 56] (by decide +kernel) (by decide +kernel)
set_option maxRecDepth 20000 in
theorem hL_X6_init_2 : GoodIn wsL_law wsX6_init_r3 := goodIn_r _ [57, 58, 59, 60, 61, 62, 63, 64, 65, 66, 67, 68, 69, 70, 71] (by decide +kernel) (by decide +kernel)
theorem ggL_law_X6_init : GoodIn wsL_law wsX6_init := goodIn_ca (goodIn_ca (goodIn_ca (goodIn_ca (goodIn_ca (goodIn_ca (goodIn_ca (goodIn_ca hL_X6_init_0 (goodIn_app hL_X6_init_1 hL_X6_init_2)) hLt_wsX10) hLt_wsX60) hLt_wsX50) hLt_wsX20) hLt_wsX30) hLt_wsX40) hLt_wsX00
set_option maxRecDepth 20000 in
theorem hL_X7_init_0 : GoodIn wsL_law (Cond.code yX7_init cX7_init 2 none :: wsX7_init_r1) := goodIn_r _ [74, 75, 10, 11, 76, 77, 78, 79, 61, 80, 81, 82, 83, 84, 85, 86, 87, 88, 89, 90, 91, 92, 93, 94, 95] (by decide +kernel) (by decide +kernel)
set_option maxRecDepth 20000 in
theorem hL_X7_init_1 : GoodIn wsL_law wsX7_init_r2 := goodIn_r _ [96, 97, 98, 99, 100, 101, 102, 103, 104, 105, 106, 107, 108, 109, 110, 111, 112, 113, 114, 115, 116, 117, 118] (by decide +kernel) (by decide +kernel)
theorem ggL_law_X7_init : GoodIn wsL_law wsX7_init := goodIn_ca (goodIn_ca hL_X7_init_0 (hL_X7_init_1)) hLt_wsX70
set_option maxRecDepth 20000 in
theorem hL_X6_pass_0 : GoodIn wsL_law (Cond.code yX6_pass cX6_pass 4 (some .int) :: wsX6_pass_r1) := goodIn_r _ [167, 126, 127, 2, 128, 168, 169, 170, 171, 19, 172, 20, 15, 140, 173, 174, 175, 176, 177, 18, 178, 179, 43, 180, 181] (by decide +kernel) (by decide +kernel)
set_option maxRecDepth 20000 in
theorem hL_X6_pass_1 : GoodIn wsL_law wsX6_pass_r2 := goodIn_r _ [182, 183, 184, 42, 185, 186, 57, 187, 188, 189, 190, 191, 192, 193, 194, 195, 196, 197, 198, 199, 200, 47, 52, 201] (by decide +kernel) (by decide +kernel)
set_option maxRecDepth 20000 in
theorem hL_X6_pass_2 : GoodIn wsL_law wsX6_pass_r3 := goodIn_r _ [202, 51, 203, 204, 205, 206, 46, 207, 63, 208, 209, 64, 210, 211, 212, 213, 62, 214, 215, 216, 217, 218, 219, 220] (by decide +kernel) (by decide +kernel)
set_option maxRecDepth 20000 in
theorem hL_X6_pass_3 : GoodIn wsL_law wsX6_pass_r4 := goodIn_r _ [221, 222, 223, 224, 225, 226, 227, 228, 229, 230, 231, 232, 233, 234, 235, 236, 237, 238, 239, 50, 240, 68, 241, 242] (by decide +kernel) (by decide +kernel)
set_option maxRecDepth 20000 in
theorem hL_X6_pass_4 : GoodIn wsL_law wsX6_pass_r5 := goodIn_r _ [243, 244, 245, 246, 247, 248, 249, 250, 251, 252, 253, 254, 255, 256, 257, 69, 258, 259, 260, 261, 262, 263, 264, 265] (by decide +kernel) (by decide +kernel)
set_option maxRecDepth 20000 in
theorem hL_X6_pass_5 : GoodIn wsL_law wsX6_pass_r6 := goodIn_r _ [266, 267, 268, 269, 270, 70, 71, 271, 272, 273, 274, 275, 276, 277, 278, 279, 280, 281, 282, 283, 284, 285, 286, 287] (by decide +kernel) (by decide +kernel)
set_option maxRecDepth 20000 in
theorem hL_X6_pass_6 : GoodIn wsL_law wsX6_pass_r7 := goodIn_r _ [288, 289, 290, 14, 291, 292, 293, 294, 295, 296, 297, 26, 298, 299, 300, 301, 302, 303, 304, 28, 305, 306, 307, 308] (by decide +kernel) (by decide +kernel)
set_option maxRecDepth 20000 in
theorem hL_X6_pass_7 : GoodIn wsL_law wsX6_pass_r8 := goodIn_r _ [24, 309, 310, 311, 312, 31, 313, 314, 315, 316, 317, 25, 318, 319, 320, 321, 322, 323, 324, 325, 326, 327, 328, 329] (by decide +kernel) (by decide +kernel)
set_option maxRecDepth 20000 in
theorem hL_X6_pass_8 : GoodIn wsL_law wsX6_pass_r9 := goodIn_r _ [330, 331, 332, 333, 334, 335, 336, 337, 338, 339, 340, 341, 342, 343, 344, 345, 346, 347, 348, 349, 350, 351, 352, 353] (by decide +kernel) (by decide +kernel)
set_option maxRecDepth 20000 in
theorem hL_X6_pass_9 : GoodIn wsL_law wsX6_pass_r10 := goodIn_r _ [354, 355, 56, 29, 30, 356, 33, 34, 35, 10, 11, 36, 357, 358, 359, 360, 361, 362, 363, 364, 365, 366, 367, 368] (by decide +kernel) (by decide +kernel)
set_option maxRecDepth 20000 in
theorem hL_X6_pass_10 : GoodIn wsL_law wsX6_pass_r11 := goodIn_r _ [369, 370] (by decide +kernel) (by decide +kernel)
theorem ggL_law_X6_pass : GoodIn wsL_law wsX6_pass := goodIn_ca (goodIn_ca (goodIn_ca (goodIn_ca (goodIn_ca (goodIn_ca (goodIn_ca (goodIn_ca hL_X6_pass_0 (goodIn_app hL_X6_pass_1 (goodIn_app hL_X6_pass_2 (goodIn_app hL_X6_pass_3 (goodIn_app hL_X6_pass_4 (goodIn_app hL_X6_pass_5 (goodIn_app hL_X6_pass_6 (goodIn_app hL_X6_pass_7 (goodIn_app hL_X6_pass_8 (goodIn_app hL_X6_pass_9 hL_X6_pass_10)))))))))) hLt_wsX60) hLt_wsX10) hLt_wsX50) hLt_wsX20) hLt_wsX30) hLt_wsX40) hLt_wsX00
set_option maxRecDepth 20000 in
theorem hL_X7_pass_0 : GoodIn wsL_law (Cond.code yX7_pass cX7_pass 4 (some .int) :: wsX7_pass_r1) := goodIn_r _ [374, 375, 133, 134, 5, 135, 376, 377, 378, 379, 79, 380, 381, 145, 382, 383, 384, 385, 386, 387, 83, 90, 388, 389, 390] (by decide +kernel) (by decide +kernel)
set_option maxRecDepth 20000 in
theorem hL_X7_pass_1 : GoodIn wsL_law wsX7_pass_r2 := goodIn_r _ [391, 85, 86, 87, 89, 93, 94, 95, 97, 96, 98, 99, 100, 392, 393, 394, 395, 84, 396, 397, 398, 399, 104, 105] (by decide +kernel) (by decide +kernel)
set_option maxRecDepth 20000 in
theorem hL_X7_pass_2 : GoodIn wsL_law wsX7_pass_r3 := goodIn_r _ [106, 107, 400, 401, 402, 403, 404, 405, 406, 407, 408, 409, 410, 411, 108, 113, 109, 112, 412, 413, 414, 415, 416, 417] (by decide +kernel) (by decide +kernel)
set_option maxRecDepth 20000 in
theorem hL_X7_pass_3 : GoodIn wsL_law wsX7_pass_r4 := goodIn_r _ [114, 115, 418, 419, 420, 421, 116, 117, 118, 422, 423, 424, 425, 426, 427, 428, 429, 430, 110, 111, 103, 431, 432, 433] (by decide +kernel) (by decide +kernel)
set_option maxRecDepth 20000 in
theorem hL_X7_pass_4 : GoodIn wsL_law wsX7_pass_r5 := goodIn_r _ [434, 435, 436, 437, 438, 439, 440, 441, 442, 443, 444, 82, 445, 78, 446, 80, 81, 447, 448, 449, 450, 451, 452, 453] (by decide +kernel) (by decide +kernel)
set_option maxRecDepth 20000 in
theorem hL_X7_pass_5 : GoodIn wsL_law wsX7_pass_r6 := goodIn_r _ [454, 76, 455, 456, 457, 458, 77, 459, 460, 461, 462, 463, 91, 464, 465, 466, 467, 102, 468, 469, 470, 471, 472, 473] (by decide +kernel) (by decide +kernel)
set_option maxRecDepth 20000 in
theorem hL_X7_pass_6 : GoodIn wsL_law wsX7_pass_r7 := goodIn_r _ [474, 475, 476, 477, 478, 92, 479, 480, 481, 482, 483] (by decide +kernel) (by decide +kernel)
theorem ggL_law_X7_pass : GoodIn wsL_law wsX7_pass := goodIn_ca (goodIn_ca hL_X7_pass_0 (goodIn_app hL_X7_pass_1 (goodIn_app hL_X7_pass_2 (goodIn_app hL_X7_pass_3 (goodIn_app hL_X7_pass_4 (goodIn_app hL_X7_pass_5 hL_X7_pass_6)))))) hLt_wsX70
