set_option maxRecDepth 20000 in
theorem hL_X6_ofSender_0 : GoodIn wsL_law (Cond.code yX6_ofSender cX6_ofSender 4 (some .int) :: wsX6_ofSender_r1) := goodIn_r _ [512, 513, 514, 515, 516, 517, 518, 519, 520, 521, 150, 522, 523, 524, 525, 172, 526, 333, 225, 334, 152, 153, 154, 2, 155] (by decide +kernel) (by decide +kernel)
set_option maxRecDepth 20000 in
theorem hL_X6_ofSender_1 : GoodIn wsL_law wsX6_ofSender_r2 := goodIn_r _ [19, 20, 527, 268, 269, 18, 270, 52, 227, 271, 528, 323, 324, 325, 51, 326, 327, 328, 329, 330, 331, 332, 335, 529] (by decide +kernel) (by decide +kernel)
set_option maxRecDepth 20000 in
theorem hL_X6_ofSender_2 : GoodIn wsL_law wsX6_ofSender_r3 := goodIn_r _ [364, 365, 50, 366, 68, 245] (by decide +kernel) (by decide +kernel)
theorem ggL_law_X6_ofSender : GoodIn wsL_law wsX6_ofSender := goodIn_ca (goodIn_ca (goodIn_ca (goodIn_ca (goodIn_ca hL_X6_ofSender_0 (goodIn_app hL_X6_ofSender_1 hL_X6_ofSender_2)) hLt_wsX50) hLt_wsX00) hLt_wsX30) hLt_wsX60
set_option maxRecDepth 20000 in
theorem hL_X7_ofSender_0 : GoodIn wsL_law (Cond.code yX7_ofSender cX7_ofSender 3 (some .int) :: wsX7_ofSender_r1) := goodIn_r _ [533, 108, 83, 93, 98, 99, 96, 103, 91, 95, 92, 161, 162, 5, 163, 133, 134, 135, 418, 419, 420, 421, 422, 464, 465] (by decide +kernel) (by decide +kernel)
set_option maxRecDepth 20000 in
theorem hL_X7_ofSender_1 : GoodIn wsL_law wsX7_ofSender_r2 := goodIn_r _ [466, 467, 431, 468, 469, 470, 412, 476, 477, 478, 479, 109, 534, 535, 536, 537, 102, 377] (by decide +kernel) (by decide +kernel)
theorem ggL_law_X7_ofSender : GoodIn wsL_law wsX7_ofSender := goodIn_ca (goodIn_ca hL_X7_ofSender_0 (hL_X7_ofSender_1)) hLt_wsX70
set_option maxRecDepth 20000 in
theorem hL_X6_sample_0 : GoodIn wsL_law (Cond.code yX6_sample cX6_sample 5 (some .int) :: wsX6_sample_r1) := goodIn_r _ [541, 542, 543, 520, 152, 153, 154, 2, 155, 19, 20, 126, 127, 128, 544, 545, 546, 46, 547, 63, 210, 211, 212, 213, 548] (by decide +kernel) (by decide +kernel)
set_option maxRecDepth 20000 in
theorem hL_X6_sample_1 : GoodIn wsL_law wsX6_sample_r2 := goodIn_r _ [549, 550, 551, 62, 214, 215, 216, 217, 208] (by decide +kernel) (by decide +kernel)
theorem ggL_law_X6_sample : GoodIn wsL_law wsX6_sample := goodIn_ca (goodIn_ca (goodIn_ca (goodIn_ca hL_X6_sample_0 (hL_X6_sample_1)) hLt_wsX50) hLt_wsX40) hLt_wsX60
set_option maxRecDepth 20000 in
theorem hL_X7_sample_0 : GoodIn wsL_law (Cond.code yX7_sample cX7_sample 5 (some .int) :: [.fieldLink RX7 94 "ModelSenderModel" "sampleMany" "[I", .fieldLink RX7 91 "ModelSenderModel" "sampleFirst" "[I", .fieldLink RX7 97 "ModelSenderModel" "sampleRounds" "[I", .fieldLink RX7 100 "ModelSenderModel" "sampleRate" "[I", .methodLink RX7 166 yX7_isSender, .static yX7_isSender, .initialized RX7, .code yX7_isSender cX7_isSender 1 (some .boolean), .methodLink RX7 136 yX7_within, .static yX7_within, .code yX7_within cX7_within 3 (some .boolean)]) := goodIn_r _ [555, 105, 104, 106, 107, 161, 162, 5, 163, 133, 134, 135] (by decide +kernel) (by decide +kernel)
theorem ggL_law_X7_sample : GoodIn wsL_law wsX7_sample := goodIn_ca (hL_X7_sample_0) hLt_wsX70
set_option maxRecDepth 20000 in
theorem hL_X6_best_0 : GoodIn wsL_law (Cond.code yX6_best cX6_best 4 (some .int) :: wsX6_best_r1) := goodIn_r _ [559, 542, 520, 152, 153, 154, 2, 155, 19, 20, 126, 127, 128, 560, 561, 562, 46, 563, 63, 64, 232, 224, 225, 226, 210] (by decide +kernel) (by decide +kernel)
set_option maxRecDepth 20000 in
theorem hL_X6_best_1 : GoodIn wsL_law wsX6_best_r2 := goodIn_r _ [211, 212, 213] (by decide +kernel) (by decide +kernel)
theorem ggL_law_X6_best : GoodIn wsL_law wsX6_best := goodIn_ca (goodIn_ca (goodIn_ca (goodIn_ca hL_X6_best_0 (hL_X6_best_1)) hLt_wsX50) hLt_wsX60) hLt_wsX40
set_option maxRecDepth 20000 in
theorem hL_X7_best_0 : GoodIn wsL_law (Cond.code yX7_best cX7_best 3 (some .int) :: [.fieldLink RX7 69 "ModelSenderModel" "rounds" "[I", .methodLink RX7 166 yX7_isSender, .static yX7_isSender, .initialized RX7, .code yX7_isSender cX7_isSender 1 (some .boolean), .methodLink RX7 136 yX7_within, .static yX7_within, .code yX7_within cX7_within 3 (some .boolean), .methodLink RX7 206 yX7_greatestFrom, .instanceMethod yX7_greatestFrom, .selects RX7 yX7_greatestFrom yX7_greatestFrom, .code yX7_greatestFrom cX7_greatestFrom 6 (some .int), .fieldLink RX7 94 "ModelSenderModel" "sampleMany" "[I", .fieldLink RX7 91 "ModelSenderModel" "sampleFirst" "[I", .fieldLink RX7 97 "ModelSenderModel" "sampleRounds" "[I", .fieldLink RX7 100 "ModelSenderModel" "sampleRate" "[I"]) := goodIn_r _ [567, 96, 161, 162, 5, 163, 133, 134, 135, 400, 401, 402, 403, 105, 104, 106, 107] (by decide +kernel) (by decide +kernel)
theorem ggL_law_X7_best : GoodIn wsL_law wsX7_best := goodIn_ca (hL_X7_best_0) hLt_wsX70
set_option maxRecDepth 20000 in
theorem hL_X6_letter_0 : GoodIn wsL_law (Cond.code yX6_letter cX6_letter 6 (some .int) :: [.fieldLink RX6 101 "ModelSender$Sender" "onWay" "LModelSender$OnWay;", .fieldLink RX6 174 "ModelSender$Letter" "number" "I", .fieldLink RX6 179 "ModelSender$Letter" "sent" "I", .fieldLink RX6 180 "ModelSender$Letter" "limited" "Z", .fieldLink RX6 184 "ModelSender$Letter" "hasLeft" "Z", .methodLink RX6 45 yX6_senderOf, .instanceMethod yX6_senderOf, .selects RX6 yX6_senderOf yX6_senderOf, .initialized RX6, .code yX6_senderOf cX6_senderOf 2 (some (.object "ModelSender$Sender")), .fieldLink RX6 21 "ModelSender" "zero" "LModelSender$Sender;", .fieldLink RX6 25 "ModelSender" "one" "LModelSender$Sender;", .methodLink RX6 170 yX3_at, .instanceMethod yX3_at, .selects RX3 yX3_at yX3_at, .initialized RX3, .code yX3_at cX3_at 2 (some (.object "ModelSender$Letter")), .fieldLink RX3 17 "ModelSender$OnWay" "count" "I", .fieldLink RX3 11 "ModelSender$OnWay" "letters" "[LModelSender$Letter;", .methodLink RX6 64 yX6_asNumber, .static yX6_asNumber, .code yX6_asNumber cX6_asNumber 1 (some .int)]) := goodIn_r _ [571, 515, 572, 573, 574, 575, 152, 153, 154, 2, 155, 19, 20, 576, 183, 184, 42, 185, 186, 57, 489, 490, 491] (by decide +kernel) (by decide +kernel)
theorem ggL_law_X6_letter : GoodIn wsL_law wsX6_letter := goodIn_ca (goodIn_ca (goodIn_ca (goodIn_ca (hL_X6_letter_0) hLt_wsX50) hLt_wsX20) hLt_wsX60) hLt_wsX30
