set_option maxRecDepth 20000 in
theorem gL_law_X2_order : GoodIn wsL_law (wsV RL 57 RX2 yX2_order wsX2_order) := goodIn_app (goodIn_of _ (by decide +kernel)) ggL_law_X2_order
set_option maxRecDepth 20000 in
theorem ggL_law_X3_order : GoodIn wsL_law wsX3_order := goodIn_r _ [327, 36, 37, 50, 52, 38, 214, 215, 216, 5, 217, 53, 67, 68, 69, 307, 308, 309, 310, 210, 218, 219, 220, 221, 222, 223, 224, 225, 226, 227, 228, 45, 39, 46, 229, 230, 231, 232, 233, 47, 234, 235, 236, 237, 238, 239, 240, 241, 242, 243, 41, 211, 212, 213, 244, 245, 246, 247, 40, 48, 248, 249, 250, 251, 42, 35, 43, 44, 252, 253, 254, 255, 256, 257, 258, 259, 260, 261, 262, 263, 264, 265, 49, 266, 403, 404, 405, 406, 407, 408, 409, 410, 411, 412, 413, 414, 415, 416, 417, 418, 419, 420, 421, 422, 423, 424, 425, 426, 427, 428, 429, 430, 431, 432] (by decide +kernel) (by decide +kernel)
set_option maxRecDepth 20000 in
theorem gL_law_X3_order : GoodIn wsL_law (wsV RL 60 RX3 yX3_order wsX3_order) := goodIn_app (goodIn_of _ (by decide +kernel)) ggL_law_X3_order
set_option maxRecDepth 20000 in
theorem ggL_law_X2_fold : GoodIn wsL_law wsX2_fold := goodIn_r _ [331, 15, 22, 116, 24, 84, 85, 2, 86, 117, 118, 119, 332, 333, 334, 335, 336, 337, 182, 338, 163, 164, 165, 166, 23, 184, 185, 186, 187, 192, 193, 194, 195, 27, 28, 29, 387, 388, 389, 390, 391, 392, 393, 394, 395, 396, 397, 398, 399, 400, 401, 402, 433] (by decide +kernel) (by decide +kernel)
set_option maxRecDepth 20000 in
theorem gL_law_X2_fold : GoodIn wsL_law (wsV RL 61 RX2 yX2_fold wsX2_fold) := goodIn_app (goodIn_of _ (by decide +kernel)) ggL_law_X2_fold
set_option maxRecDepth 20000 in
theorem ggL_law_X3_fold : GoodIn wsL_law wsX3_fold := goodIn_r _ [342, 36, 37, 38, 275, 67, 68, 5, 69, 261, 262, 263, 264, 265, 49, 266, 403, 404, 405, 406, 407, 408, 409, 410, 411, 412, 413, 414, 415, 416, 417, 418, 419, 420, 421, 422, 423, 424, 425, 426, 427, 428, 429, 430, 431, 432] (by decide +kernel) (by decide +kernel)
set_option maxRecDepth 20000 in
theorem gL_law_X3_fold : GoodIn wsL_law (wsV RL 64 RX3 yX3_fold wsX3_fold) := goodIn_app (goodIn_of _ (by decide +kernel)) ggL_law_X3_fold
set_option maxRecDepth 20000 in
theorem ggL_law_X2_until : GoodIn wsL_law wsX2_until := goodIn_r _ [346, 24, 146, 147, 148, 2, 149, 18, 150, 151, 152, 153, 25, 22, 154, 155, 156, 157, 26, 17, 158, 159, 160, 13, 161, 15, 162, 163, 164, 165, 166, 23, 167, 168, 169, 170, 116, 120, 121, 122, 83, 123, 91, 171, 172, 173, 174, 175, 176, 177, 178, 179, 180, 181, 182, 183, 184, 185, 186, 187, 188, 189, 190, 191, 30, 192, 193, 194, 195, 27, 28, 29, 117, 118, 119, 387, 388, 389, 390, 391, 392, 393, 394, 395, 396, 397, 398, 399, 400, 401, 402, 434, 435, 436, 437, 438, 439, 433] (by decide +kernel) (by decide +kernel)
set_option maxRecDepth 20000 in
theorem gL_law_X2_until : GoodIn wsL_law (wsV RL 65 RX2 yX2_until wsX2_until) := goodIn_app (goodIn_of _ (by decide +kernel)) ggL_law_X2_until
set_option maxRecDepth 20000 in
theorem ggL_law_X3_until : GoodIn wsL_law wsX3_until := goodIn_r _ [350, 210, 223, 275, 214, 215, 216, 5, 217, 53, 67, 68, 69, 218, 219, 220, 221, 222, 224, 225, 226, 227, 228, 45, 39, 46, 229, 230, 231, 232, 233, 47, 234, 235, 236, 237, 238, 239, 240, 241, 242, 243, 41, 211, 212, 213, 244, 245, 246, 247, 40, 48, 248, 249, 250, 251, 42, 35, 43, 36, 44, 252, 253, 254, 255, 37, 38, 256, 257, 258, 259, 260, 261, 262, 263, 264, 265, 49, 266, 403, 404, 405, 406, 407, 408, 409, 410, 411, 412, 413, 414, 415, 416, 417, 418, 419, 420, 421, 422, 423, 424, 425, 426, 427, 428, 429, 430, 431, 432] (by decide +kernel) (by decide +kernel)
set_option maxRecDepth 20000 in
theorem gL_law_X3_until : GoodIn wsL_law (wsV RL 69 RX3 yX3_until wsX3_until) := goodIn_app (goodIn_of _ (by decide +kernel)) ggL_law_X3_until
set_option maxRecDepth 20000 in
theorem ggL_law_X2_result : GoodIn wsL_law wsX2_result := goodIn_r _ [354, 24, 387, 388, 389, 390, 391, 392, 393, 394, 395, 396, 397, 398, 399, 400, 401, 402] (by decide +kernel) (by decide +kernel)
set_option maxRecDepth 20000 in
theorem gL_law_X2_result : GoodIn wsL_law (wsV RL 70 RX2 yX2_result wsX2_result) := goodIn_app (goodIn_of _ (by decide +kernel)) ggL_law_X2_result
set_option maxRecDepth 20000 in
theorem ggL_law_X3_result : GoodIn wsL_law wsX3_result := goodIn_r _ [358, 275, 403, 404, 405, 406, 407, 408, 409, 410, 411, 412, 413, 414, 415, 416, 417, 418, 419, 420, 421, 422, 423, 424, 425, 426, 427, 428, 429, 430, 431, 432] (by decide +kernel) (by decide +kernel)
set_option maxRecDepth 20000 in
theorem gL_law_X3_result : GoodIn wsL_law (wsV RL 74 RX3 yX3_result wsX3_result) := goodIn_app (goodIn_of _ (by decide +kernel)) ggL_law_X3_result
