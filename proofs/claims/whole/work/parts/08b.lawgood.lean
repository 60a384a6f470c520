set_option maxRecDepth 20000 in
theorem ggL_law_X3_init : GoodIn wsL_law wsX3_init := goodIn_r _ [8, 9, 10, 11, 12, 13, 14, 15, 16, 17, 18, 19, 20, 21, 22, 23, 24, 25, 26, 27, 28, 29, 30, 31, 32, 33, 34, 35, 36, 37, 38, 39, 40, 485, 486, 487, 488, 489, 490, 491, 492, 493, 494, 461, 462, 495, 496, 497, 498] (by decide +kernel) (by decide +kernel)
set_option maxRecDepth 20000 in
theorem gL_law_X3_init : GoodIn wsL_law (wsX3_init) := ggL_law_X3_init
set_option maxRecDepth 20000 in
theorem ggL_law_X4_init : GoodIn wsL_law wsX4_init := goodIn_r _ [43, 44, 10, 11, 23, 45, 46, 47, 48, 49, 50, 51, 52, 53, 54, 463, 464, 465, 466, 467, 468, 469, 470, 471, 472, 473, 474, 475, 476, 477, 478, 479, 480, 481, 482, 483, 484] (by decide +kernel) (by decide +kernel)
set_option maxRecDepth 20000 in
theorem gL_law_X4_init : GoodIn wsL_law (wsX4_init) := ggL_law_X4_init
set_option maxRecDepth 20000 in
theorem ggL_law_X3_feed : GoodIn wsL_law wsX3_feed := goodIn_r _ [58, 15, 59, 60, 61, 14, 62, 25, 24, 30, 63, 64, 65, 66, 461, 462, 485, 486, 487, 488, 489, 490, 491, 492, 493, 494] (by decide +kernel) (by decide +kernel)
set_option maxRecDepth 20000 in
theorem gL_law_X3_feed : GoodIn wsL_law (wsV RL 13 RX3 yX3_feed wsX3_feed) := goodIn_app (goodIn_of _ (by decide +kernel)) ggL_law_X3_feed
set_option maxRecDepth 20000 in
theorem ggL_law_X4_feed : GoodIn wsL_law wsX4_feed := goodIn_r _ [70, 71, 72, 45, 73, 74, 75, 5, 76, 463, 464, 465, 466, 467, 468, 469, 470, 471, 472, 473, 474, 475, 476, 477, 478, 479, 480, 481, 482, 483, 484] (by decide +kernel) (by decide +kernel)
set_option maxRecDepth 20000 in
theorem gL_law_X4_feed : GoodIn wsL_law (wsV RL 17 RX4 yX4_feed wsX4_feed) := goodIn_app (goodIn_of _ (by decide +kernel)) ggL_law_X4_feed
set_option maxRecDepth 20000 in
theorem ggL_law_X3_parse : GoodIn wsL_law wsX3_parse := goodIn_r _ [80, 15, 81, 82, 83, 14, 84, 30, 32, 33, 85, 86, 87, 88, 25, 89, 90, 91, 92, 93, 94, 95, 96, 24, 26, 29, 31, 97, 98, 99, 100, 101, 102, 65, 103, 104, 105, 106, 107, 27, 28, 108, 109, 110, 111, 112, 113, 114, 115, 116, 117, 118, 119, 120, 121, 122, 123, 124, 125, 126, 127, 128, 129, 130, 131, 132, 133, 134, 135, 136, 137, 138, 139, 140, 141, 142, 143, 144, 145, 146, 147, 148, 149, 150, 461, 462, 485, 486, 487, 488, 489, 490, 491, 492, 493, 494] (by decide +kernel) (by decide +kernel)
set_option maxRecDepth 20000 in
theorem gL_law_X3_parse : GoodIn wsL_law (wsV RL 18 RX3 yX3_parse wsX3_parse) := goodIn_app (goodIn_of _ (by decide +kernel)) ggL_law_X3_parse
set_option maxRecDepth 20000 in
theorem ggL_law_X4_parse : GoodIn wsL_law wsX4_parse := goodIn_r _ [154, 71, 155, 156, 157, 158, 159, 73, 47, 51, 48, 72, 50, 160, 161, 162, 163, 5, 164, 45, 46, 49, 52, 165, 166, 167, 168, 169, 170, 171, 172, 173, 174, 175, 176, 177, 178, 179, 180, 181, 182, 183, 463, 464, 465, 466, 467, 468, 469, 470, 471, 472, 473, 474, 475, 476, 477, 478, 479, 480, 481, 482, 483, 484] (by decide +kernel) (by decide +kernel)
set_option maxRecDepth 20000 in
theorem gL_law_X4_parse : GoodIn wsL_law (wsV RL 22 RX4 yX4_parse wsX4_parse) := goodIn_app (goodIn_of _ (by decide +kernel)) ggL_law_X4_parse
set_option maxRecDepth 20000 in
theorem ggL_law_X3_offence : GoodIn wsL_law wsX3_offence := goodIn_r _ [187, 15, 461, 462, 485, 486, 487, 488, 489, 490, 491, 492, 493, 494] (by decide +kernel) (by decide +kernel)
set_option maxRecDepth 20000 in
theorem gL_law_X3_offence : GoodIn wsL_law (wsV RL 23 RX3 yX3_offence wsX3_offence) := goodIn_app (goodIn_of _ (by decide +kernel)) ggL_law_X3_offence
set_option maxRecDepth 20000 in
theorem ggL_law_X4_offence : GoodIn wsL_law wsX4_offence := goodIn_r _ [191, 71, 50, 463, 464, 465, 466, 467, 468, 469, 470, 471, 472, 473, 474, 475, 476, 477, 478, 479, 480, 481, 482, 483, 484] (by decide +kernel) (by decide +kernel)
set_option maxRecDepth 20000 in
theorem gL_law_X4_offence : GoodIn wsL_law (wsV RL 26 RX4 yX4_offence wsX4_offence) := goodIn_app (goodIn_of _ (by decide +kernel)) ggL_law_X4_offence
set_option maxRecDepth 20000 in
theorem ggL_law_X3_nodeCount : GoodIn wsL_law wsX3_nodeCount := goodIn_r _ [195, 15, 461, 462, 485, 486, 487, 488, 489, 490, 491, 492, 493, 494] (by decide +kernel) (by decide +kernel)
set_option maxRecDepth 20000 in
theorem gL_law_X3_nodeCount : GoodIn wsL_law (wsV RL 27 RX3 yX3_nodeCount wsX3_nodeCount) := goodIn_app (goodIn_of _ (by decide +kernel)) ggL_law_X3_nodeCount
set_option maxRecDepth 20000 in
theorem ggL_law_X4_nodeCount : GoodIn wsL_law wsX4_nodeCount := goodIn_r _ [199, 71, 73, 160, 463, 464, 465, 466, 467, 468, 469, 470, 471, 472, 473, 474, 475, 476, 477, 478, 479, 480, 481, 482, 483, 484] (by decide +kernel) (by decide +kernel)
set_option maxRecDepth 20000 in
theorem gL_law_X4_nodeCount : GoodIn wsL_law (wsV RL 30 RX4 yX4_nodeCount wsX4_nodeCount) := goodIn_app (goodIn_of _ (by decide +kernel)) ggL_law_X4_nodeCount
set_option maxRecDepth 20000 in
theorem ggL_law_X3_tagOf : GoodIn wsL_law wsX3_tagOf := goodIn_r _ [203, 15, 204, 205, 206, 14, 207, 208, 209, 210, 211, 30, 461, 462, 485, 486, 487, 488, 489, 490, 491, 492, 493, 494] (by decide +kernel) (by decide +kernel)
set_option maxRecDepth 20000 in
theorem gL_law_X3_tagOf : GoodIn wsL_law (wsV RL 31 RX3 yX3_tagOf wsX3_tagOf) := goodIn_app (goodIn_of _ (by decide +kernel)) ggL_law_X3_tagOf
set_option maxRecDepth 20000 in
theorem ggL_law_X4_tagOf : GoodIn wsL_law wsX4_tagOf := goodIn_r _ [215, 46, 216, 217, 218, 5, 219, 71, 73, 160, 463, 464, 465, 466, 467, 468, 469, 470, 471, 472, 473, 474, 475, 476, 477, 478, 479, 480, 481, 482, 483, 484] (by decide +kernel) (by decide +kernel)
set_option maxRecDepth 20000 in
theorem gL_law_X4_tagOf : GoodIn wsL_law (wsV RL 34 RX4 yX4_tagOf wsX4_tagOf) := goodIn_app (goodIn_of _ (by decide +kernel)) ggL_law_X4_tagOf
set_option maxRecDepth 20000 in
theorem ggL_law_X3_contentAt : GoodIn wsL_law wsX3_contentAt := goodIn_r _ [223, 15, 204, 205, 206, 14, 207, 208, 209, 210, 211, 30, 461, 462, 485, 486, 487, 488, 489, 490, 491, 492, 493, 494] (by decide +kernel) (by decide +kernel)
set_option maxRecDepth 20000 in
theorem gL_law_X3_contentAt : GoodIn wsL_law (wsV RL 35 RX3 yX3_contentAt wsX3_contentAt) := goodIn_app (goodIn_of _ (by decide +kernel)) ggL_law_X3_contentAt
set_option maxRecDepth 20000 in
theorem ggL_law_X4_contentAt : GoodIn wsL_law wsX4_contentAt := goodIn_r _ [227, 47, 216, 217, 218, 5, 219, 71, 73, 160, 463, 464, 465, 466, 467, 468, 469, 470, 471, 472, 473, 474, 475, 476, 477, 478, 479, 480, 481, 482, 483, 484] (by decide +kernel) (by decide +kernel)
set_option maxRecDepth 20000 in
theorem gL_law_X4_contentAt : GoodIn wsL_law (wsV RL 38 RX4 yX4_contentAt wsX4_contentAt) := goodIn_app (goodIn_of _ (by decide +kernel)) ggL_law_X4_contentAt
set_option maxRecDepth 20000 in
theorem ggL_law_X3_contentLen : GoodIn wsL_law wsX3_contentLen := goodIn_r _ [231, 15, 204, 205, 206, 14, 207, 208, 209, 210, 211, 30, 461, 462, 485, 486, 487, 488, 489, 490, 491, 492, 493, 494] (by decide +kernel) (by decide +kernel)
set_option maxRecDepth 20000 in
theorem gL_law_X3_contentLen : GoodIn wsL_law (wsV RL 39 RX3 yX3_contentLen wsX3_contentLen) := goodIn_app (goodIn_of _ (by decide +kernel)) ggL_law_X3_contentLen
set_option maxRecDepth 20000 in
theorem ggL_law_X4_contentLen : GoodIn wsL_law wsX4_contentLen := goodIn_r _ [235, 48, 216, 217, 218, 5, 219, 71, 73, 160, 463, 464, 465, 466, 467, 468, 469, 470, 471, 472, 473, 474, 475, 476, 477, 478, 479, 480, 481, 482, 483, 484] (by decide +kernel) (by decide +kernel)
set_option maxRecDepth 20000 in
theorem gL_law_X4_contentLen : GoodIn wsL_law (wsV RL 42 RX4 yX4_contentLen wsX4_contentLen) := goodIn_app (goodIn_of _ (by decide +kernel)) ggL_law_X4_contentLen
set_option maxRecDepth 20000 in
theorem ggL_law_X3_parent : GoodIn wsL_law wsX3_parent := goodIn_r _ [239, 15, 204, 205, 206, 14, 207, 208, 209, 210, 211, 30, 461, 462, 485, 486, 487, 488, 489, 490, 491, 492, 493, 494] (by decide +kernel) (by decide +kernel)
set_option maxRecDepth 20000 in
theorem gL_law_X3_parent : GoodIn wsL_law (wsV RL 43 RX3 yX3_parent wsX3_parent) := goodIn_app (goodIn_of _ (by decide +kernel)) ggL_law_X3_parent
set_option maxRecDepth 20000 in
theorem ggL_law_X4_parent : GoodIn wsL_law wsX4_parent := goodIn_r _ [243, 49, 216, 217, 218, 5, 219, 71, 73, 160, 463, 464, 465, 466, 467, 468, 469, 470, 471, 472, 473, 474, 475, 476, 477, 478, 479, 480, 481, 482, 483, 484] (by decide +kernel) (by decide +kernel)
set_option maxRecDepth 20000 in
theorem gL_law_X4_parent : GoodIn wsL_law (wsV RL 46 RX4 yX4_parent wsX4_parent) := goodIn_app (goodIn_of _ (by decide +kernel)) ggL_law_X4_parent
set_option maxRecDepth 20000 in
theorem ggL_law_X3_oidArc : GoodIn wsL_law wsX3_oidArc := goodIn_r _ [247, 15, 248, 249, 250, 14, 251, 26, 252, 208, 209, 210, 211, 30, 253, 254, 255, 256, 27, 24, 257, 258, 259, 260, 261, 262, 112, 113, 114, 115, 28, 263, 264, 265, 266, 267, 461, 462, 485, 486, 487, 488, 489, 490, 491, 492, 493, 494] (by decide +kernel) (by decide +kernel)
set_option maxRecDepth 20000 in
theorem gL_law_X3_oidArc : GoodIn wsL_law (wsV RL 47 RX3 yX3_oidArc wsX3_oidArc) := goodIn_app (goodIn_of _ (by decide +kernel)) ggL_law_X3_oidArc
set_option maxRecDepth 20000 in
theorem ggL_law_X4_oidArc : GoodIn wsL_law wsX4_oidArc := goodIn_r _ [271, 46, 48, 45, 47, 272, 273, 274, 275, 276, 277, 216, 217, 218, 5, 219, 71, 73, 160, 463, 464, 465, 466, 467, 468, 469, 470, 471, 472, 473, 474, 475, 476, 477, 478, 479, 480, 481, 482, 483, 484] (by decide +kernel) (by decide +kernel)
set_option maxRecDepth 20000 in
theorem gL_law_X4_oidArc : GoodIn wsL_law (wsV RL 51 RX4 yX4_oidArc wsX4_oidArc) := goodIn_app (goodIn_of _ (by decide +kernel)) ggL_law_X4_oidArc
set_option maxRecDepth 20000 in
theorem ggL_law_X3_intFits : GoodIn wsL_law wsX3_intFits := goodIn_r _ [281, 15, 282, 283, 284, 14, 285, 26, 28, 208, 209, 210, 211, 30, 461, 462, 485, 486, 487, 488, 489, 490, 491, 492, 493, 494] (by decide +kernel) (by decide +kernel)
set_option maxRecDepth 20000 in
theorem gL_law_X3_intFits : GoodIn wsL_law (wsV RL 52 RX3 yX3_intFits wsX3_intFits) := goodIn_app (goodIn_of _ (by decide +kernel)) ggL_law_X3_intFits
set_option maxRecDepth 20000 in
theorem ggL_law_X4_intFits : GoodIn wsL_law wsX4_intFits := goodIn_r _ [289, 46, 48, 216, 217, 218, 5, 219, 71, 73, 160, 463, 464, 465, 466, 467, 468, 469, 470, 471, 472, 473, 474, 475, 476, 477, 478, 479, 480, 481, 482, 483, 484] (by decide +kernel) (by decide +kernel)
set_option maxRecDepth 20000 in
theorem gL_law_X4_intFits : GoodIn wsL_law (wsV RL 56 RX4 yX4_intFits wsX4_intFits) := goodIn_app (goodIn_of _ (by decide +kernel)) ggL_law_X4_intFits
set_option maxRecDepth 20000 in
theorem ggL_law_X3_intValue : GoodIn wsL_law wsX3_intValue := goodIn_r _ [293, 15, 294, 295, 296, 14, 297, 28, 27, 298, 283, 284, 285, 26, 208, 209, 210, 211, 30, 120, 121, 122, 123, 24, 461, 462, 485, 486, 487, 488, 489, 490, 491, 492, 493, 494] (by decide +kernel) (by decide +kernel)
set_option maxRecDepth 20000 in
theorem gL_law_X3_intValue : GoodIn wsL_law (wsV RL 57 RX3 yX3_intValue wsX3_intValue) := goodIn_app (goodIn_of _ (by decide +kernel)) ggL_law_X3_intValue
set_option maxRecDepth 20000 in
theorem ggL_law_X4_intValue : GoodIn wsL_law wsX4_intValue := goodIn_r _ [302, 45, 47, 48, 303, 287, 288, 5, 289, 46, 216, 217, 218, 219, 71, 73, 160, 463, 464, 465, 466, 467, 468, 469, 470, 471, 472, 473, 474, 475, 476, 477, 478, 479, 480, 481, 482, 483, 484] (by decide +kernel) (by decide +kernel)
set_option maxRecDepth 20000 in
theorem gL_law_X4_intValue : GoodIn wsL_law (wsV RL 60 RX4 yX4_intValue wsX4_intValue) := goodIn_app (goodIn_of _ (by decide +kernel)) ggL_law_X4_intValue
set_option maxRecDepth 20000 in
theorem ggL_law_X3_wipe : GoodIn wsL_law wsX3_wipe := goodIn_r _ [307, 15, 308, 309, 310, 14, 311, 25, 30, 461, 462, 485, 486, 487, 488, 489, 490, 491, 492, 493, 494] (by decide +kernel) (by decide +kernel)
set_option maxRecDepth 20000 in
theorem gL_law_X3_wipe : GoodIn wsL_law (wsV RL 61 RX3 yX3_wipe wsX3_wipe) := goodIn_app (goodIn_of _ (by decide +kernel)) ggL_law_X3_wipe
set_option maxRecDepth 20000 in
theorem ggL_law_X4_wipe : GoodIn wsL_law wsX4_wipe := goodIn_r _ [315, 71, 72, 73, 463, 464, 465, 466, 467, 468, 469, 470, 471, 472, 473, 474, 475, 476, 477, 478, 479, 480, 481, 482, 483, 484] (by decide +kernel) (by decide +kernel)
set_option maxRecDepth 20000 in
theorem gL_law_X4_wipe : GoodIn wsL_law (wsV RL 64 RX4 yX4_wipe wsX4_wipe) := goodIn_app (goodIn_of _ (by decide +kernel)) ggL_law_X4_wipe
set_option maxRecDepth 20000 in
theorem ggL_law_X3_begin : GoodIn wsL_law wsX3_begin := goodIn_r _ [319, 19, 320, 321, 322, 18, 323, 40, 39, 38, 324, 102, 65, 103, 325, 326, 327, 328, 329, 330, 331, 332, 37, 333, 334, 335, 336, 337, 338, 339, 340, 461, 462, 495, 496, 497, 498] (by decide +kernel) (by decide +kernel)
set_option maxRecDepth 20000 in
theorem gL_law_X3_begin : GoodIn wsL_law (wsV RL 65 RX3 yX3_begin wsX3_begin) := goodIn_app (goodIn_of _ (by decide +kernel)) ggL_law_X3_begin
set_option maxRecDepth 20000 in
theorem ggL_law_X4_begin : GoodIn wsL_law wsX4_begin := goodIn_r _ [344, 71, 345, 346, 347, 54, 53, 173, 174, 5, 175, 348, 349, 350, 351, 463, 464, 465, 466, 467, 468, 469, 470, 471, 472, 473, 474, 475, 476, 477, 478, 479, 480, 481, 482, 483, 484] (by decide +kernel) (by decide +kernel)
set_option maxRecDepth 20000 in
theorem gL_law_X4_begin : GoodIn wsL_law (wsV RL 68 RX4 yX4_begin wsX4_begin) := goodIn_app (goodIn_of _ (by decide +kernel)) ggL_law_X4_begin
set_option maxRecDepth 20000 in
theorem ggL_law_X3_putByte : GoodIn wsL_law wsX3_putByte := goodIn_r _ [355, 19, 356, 357, 358, 18, 359, 40, 360, 64, 65, 66, 329, 330, 331, 332, 37, 39, 333, 334, 335, 336, 38, 337, 338, 339, 340, 461, 462, 495, 496, 497, 498] (by decide +kernel) (by decide +kernel)
set_option maxRecDepth 20000 in
theorem gL_law_X3_putByte : GoodIn wsL_law (wsV RL 69 RX3 yX3_putByte wsX3_putByte) := goodIn_app (goodIn_of _ (by decide +kernel)) ggL_law_X3_putByte
set_option maxRecDepth 20000 in
theorem ggL_law_X4_putByte : GoodIn wsL_law wsX4_putByte := goodIn_r _ [364, 71, 345, 347, 53, 74, 75, 5, 76, 348, 349, 350, 351, 54, 463, 464, 465, 466, 467, 468, 469, 470, 471, 472, 473, 474, 475, 476, 477, 478, 479, 480, 481, 482, 483, 484] (by decide +kernel) (by decide +kernel)
set_option maxRecDepth 20000 in
theorem gL_law_X4_putByte : GoodIn wsL_law (wsV RL 72 RX4 yX4_putByte wsX4_putByte) := goodIn_app (goodIn_of _ (by decide +kernel)) ggL_law_X4_putByte
set_option maxRecDepth 20000 in
theorem ggL_law_X3_putInt : GoodIn wsL_law wsX3_putInt := goodIn_r _ [368, 19, 369, 370, 371, 18, 372, 329, 330, 331, 332, 40, 37, 39, 373, 374, 375, 376, 38, 377, 378, 379, 333, 334, 335, 336, 337, 338, 339, 340, 461, 462, 495, 496, 497, 498] (by decide +kernel) (by decide +kernel)
set_option maxRecDepth 20000 in
theorem gL_law_X3_putInt : GoodIn wsL_law (wsV RL 73 RX3 yX3_putInt wsX3_putInt) := goodIn_app (goodIn_of _ (by decide +kernel)) ggL_law_X3_putInt
set_option maxRecDepth 20000 in
theorem ggL_law_X4_putInt : GoodIn wsL_law wsX4_putInt := goodIn_r _ [383, 71, 345, 347, 54, 53, 348, 349, 350, 5, 351, 463, 464, 465, 466, 467, 468, 469, 470, 471, 472, 473, 474, 475, 476, 477, 478, 479, 480, 481, 482, 483, 484] (by decide +kernel) (by decide +kernel)
set_option maxRecDepth 20000 in
theorem gL_law_X4_putInt : GoodIn wsL_law (wsV RL 76 RX4 yX4_putInt wsX4_putInt) := goodIn_app (goodIn_of _ (by decide +kernel)) ggL_law_X4_putInt
set_option maxRecDepth 20000 in
theorem ggL_law_X3_putPart : GoodIn wsL_law wsX3_putPart := goodIn_r _ [387, 19, 388, 389, 390, 18, 391, 329, 330, 331, 332, 40, 37, 39, 392, 393, 394, 333, 334, 335, 336, 38, 337, 338, 339, 340, 461, 462, 495, 496, 497, 498] (by decide +kernel) (by decide +kernel)
set_option maxRecDepth 20000 in
theorem gL_law_X3_putPart : GoodIn wsL_law (wsV RL 77 RX3 yX3_putPart wsX3_putPart) := goodIn_app (goodIn_of _ (by decide +kernel)) ggL_law_X3_putPart
set_option maxRecDepth 20000 in
theorem ggL_law_X4_putPart : GoodIn wsL_law wsX4_putPart := goodIn_r _ [398, 71, 345, 347, 53, 348, 349, 350, 5, 351, 54, 463, 464, 465, 466, 467, 468, 469, 470, 471, 472, 473, 474, 475, 476, 477, 478, 479, 480, 481, 482, 483, 484] (by decide +kernel) (by decide +kernel)
set_option maxRecDepth 20000 in
theorem gL_law_X4_putPart : GoodIn wsL_law (wsV RL 80 RX4 yX4_putPart wsX4_putPart) := goodIn_app (goodIn_of _ (by decide +kernel)) ggL_law_X4_putPart
set_option maxRecDepth 20000 in
theorem ggL_law_X3_end : GoodIn wsL_law wsX3_end := goodIn_r _ [402, 19, 403, 404, 405, 18, 406, 40, 39, 38, 37, 407, 132, 65, 133, 134, 135, 136, 137, 138, 139, 140, 141, 142, 408, 125, 126, 333, 334, 335, 336, 409, 410, 411, 412, 413, 414, 415, 416, 461, 462, 495, 496, 497, 498] (by decide +kernel) (by decide +kernel)
set_option maxRecDepth 20000 in
theorem gL_law_X3_end : GoodIn wsL_law (wsV RL 81 RX3 yX3_end wsX3_end) := goodIn_app (goodIn_of _ (by decide +kernel)) ggL_law_X3_end
set_option maxRecDepth 20000 in
theorem ggL_law_X4_end : GoodIn wsL_law wsX4_end := goodIn_r _ [420, 71, 345, 54, 347, 52, 53, 346, 180, 181, 182, 5, 183, 463, 464, 465, 466, 467, 468, 469, 470, 471, 472, 473, 474, 475, 476, 477, 478, 479, 480, 481, 482, 483, 484] (by decide +kernel) (by decide +kernel)
set_option maxRecDepth 20000 in
theorem gL_law_X4_end : GoodIn wsL_law (wsV RL 84 RX4 yX4_end wsX4_end) := goodIn_app (goodIn_of _ (by decide +kernel)) ggL_law_X4_end
set_option maxRecDepth 20000 in
theorem ggL_law_X3_out : GoodIn wsL_law wsX3_out := goodIn_r _ [424, 19, 425, 426, 427, 18, 428, 38, 37, 461, 462, 495, 496, 497, 498] (by decide +kernel) (by decide +kernel)
set_option maxRecDepth 20000 in
theorem gL_law_X3_out : GoodIn wsL_law (wsV RL 85 RX3 yX3_out wsX3_out) := goodIn_app (goodIn_of _ (by decide +kernel)) ggL_law_X3_out
set_option maxRecDepth 20000 in
theorem ggL_law_X4_out : GoodIn wsL_law wsX4_out := goodIn_r _ [432, 71, 347, 53, 463, 464, 465, 466, 467, 468, 469, 470, 471, 472, 473, 474, 475, 476, 477, 478, 479, 480, 481, 482, 483, 484] (by decide +kernel) (by decide +kernel)
set_option maxRecDepth 20000 in
theorem gL_law_X4_out : GoodIn wsL_law (wsV RL 88 RX4 yX4_out wsX4_out) := goodIn_app (goodIn_of _ (by decide +kernel)) ggL_law_X4_out
set_option maxRecDepth 20000 in
theorem ggL_law_X3_outSize : GoodIn wsL_law wsX3_outSize := goodIn_r _ [436, 19, 461, 462, 495, 496, 497, 498] (by decide +kernel) (by decide +kernel)
set_option maxRecDepth 20000 in
theorem gL_law_X3_outSize : GoodIn wsL_law (wsV RL 89 RX3 yX3_outSize wsX3_outSize) := goodIn_app (goodIn_of _ (by decide +kernel)) ggL_law_X3_outSize
set_option maxRecDepth 20000 in
theorem ggL_law_X4_outSize : GoodIn wsL_law wsX4_outSize := goodIn_r _ [440, 71, 347, 463, 464, 465, 466, 467, 468, 469, 470, 471, 472, 473, 474, 475, 476, 477, 478, 479, 480, 481, 482, 483, 484] (by decide +kernel) (by decide +kernel)
set_option maxRecDepth 20000 in
theorem gL_law_X4_outSize : GoodIn wsL_law (wsV RL 92 RX4 yX4_outSize wsX4_outSize) := goodIn_app (goodIn_of _ (by decide +kernel)) ggL_law_X4_outSize
set_option maxRecDepth 20000 in
theorem ggL_law_X3_depth : GoodIn wsL_law wsX3_depth := goodIn_r _ [444, 19, 461, 462, 495, 496, 497, 498] (by decide +kernel) (by decide +kernel)
set_option maxRecDepth 20000 in
theorem gL_law_X3_depth : GoodIn wsL_law (wsV RL 93 RX3 yX3_depth wsX3_depth) := goodIn_app (goodIn_of _ (by decide +kernel)) ggL_law_X3_depth
set_option maxRecDepth 20000 in
theorem ggL_law_X4_depth : GoodIn wsL_law wsX4_depth := goodIn_r _ [448, 71, 345, 463, 464, 465, 466, 467, 468, 469, 470, 471, 472, 473, 474, 475, 476, 477, 478, 479, 480, 481, 482, 483, 484] (by decide +kernel) (by decide +kernel)
set_option maxRecDepth 20000 in
theorem gL_law_X4_depth : GoodIn wsL_law (wsV RL 96 RX4 yX4_depth wsX4_depth) := goodIn_app (goodIn_of _ (by decide +kernel)) ggL_law_X4_depth
set_option maxRecDepth 20000 in
theorem ggL_law_X3_restart : GoodIn wsL_law wsX3_restart := goodIn_r _ [452, 19, 453, 454, 455, 18, 456, 38, 40, 461, 462, 495, 496, 497, 498] (by decide +kernel) (by decide +kernel)
set_option maxRecDepth 20000 in
theorem gL_law_X3_restart : GoodIn wsL_law (wsV RL 97 RX3 yX3_restart wsX3_restart) := goodIn_app (goodIn_of _ (by decide +kernel)) ggL_law_X3_restart
set_option maxRecDepth 20000 in
theorem ggL_law_X4_restart : GoodIn wsL_law wsX4_restart := goodIn_r _ [460, 71, 347, 345, 346, 463, 464, 465, 466, 467, 468, 469, 470, 471, 472, 473, 474, 475, 476, 477, 478, 479, 480, 481, 482, 483, 484] (by decide +kernel) (by decide +kernel)
set_option maxRecDepth 20000 in
theorem gL_law_X4_restart : GoodIn wsL_law (wsV RL 100 RX4 yX4_restart wsX4_restart) := goodIn_app (goodIn_of _ (by decide +kernel)) ggL_law_X4_restart
