set_option maxRecDepth 20000 in
theorem ggL_law_L_cell : GoodIn wsL_law wsL_cell := goodIn_r _ [9] (by decide +kernel) (by decide +kernel)
set_option maxRecDepth 20000 in
theorem gL_law_L_cell : GoodIn wsL_law (va_wsS RL 9 yL_cell wsL_cell) := goodIn_app (goodIn_of _ (by decide +kernel)) ggL_law_L_cell
set_option maxRecDepth 20000 in
theorem ggL_law_X4_init : GoodIn wsL_law wsX4_init := goodIn_r _ [12, 13, 14, 15, 16, 17, 18, 19, 20, 21, 22, 23, 24, 25, 26, 27, 28, 29, 30, 31, 32, 33, 34, 35, 36, 37, 38, 39, 40, 41, 42, 43, 44, 45, 46, 47, 48, 49, 50, 51, 52, 53, 54, 623, 624, 625, 626, 594, 595, 596, 627, 628, 629, 630, 631, 632, 633, 634, 635, 636, 637, 638, 639, 640, 641, 642, 643] (by decide +kernel) (by decide +kernel)
set_option maxRecDepth 20000 in
theorem gL_law_X4_init : GoodIn wsL_law (wsX4_init) := ggL_law_X4_init
set_option maxRecDepth 20000 in
theorem ggL_law_X5_init : GoodIn wsL_law wsX5_init := goodIn_r _ [57, 58, 14, 15, 19, 59, 60, 61, 62, 63, 64, 28, 65, 66, 67, 68, 69, 70, 71, 72, 73, 74, 75, 76, 77, 78, 79, 80, 81, 82, 597, 598, 599, 600, 601, 602, 603, 604, 605, 606, 607, 608, 609, 610, 611, 612, 613, 614, 615, 616, 617, 618, 619, 620, 621, 622] (by decide +kernel) (by decide +kernel)
set_option maxRecDepth 20000 in
theorem gL_law_X5_init : GoodIn wsL_law (wsX5_init) := ggL_law_X5_init
set_option maxRecDepth 20000 in
theorem ggL_law_X4_request : GoodIn wsL_law wsX4_request := goodIn_r _ [86, 87, 88, 89, 90, 2, 91, 25, 92, 93, 94, 95, 96, 97, 98, 99, 100, 101, 27, 102, 103, 104, 105, 106, 107, 108, 45, 109, 110, 111, 112, 46, 113, 114, 115, 18, 116, 117, 118, 119, 120, 34, 121, 122, 123, 124, 125, 126, 127, 128, 129, 130, 131, 17, 132, 133, 134, 135, 136, 137, 138, 139, 140, 141, 19, 142, 143, 144, 145, 146, 147, 148, 149, 150, 31, 32, 33, 14, 15, 151, 152, 153, 154, 48, 155, 156, 157, 158, 51, 159, 160, 50, 49, 161, 162, 163, 164, 165, 166, 167, 168, 169, 170, 171, 172, 173, 174, 175, 22, 176, 177, 39, 178, 627, 628, 629, 630, 631, 632, 633, 634, 635, 636, 637, 638, 639, 640, 641, 642, 643, 594, 595, 596, 623, 644, 645, 646, 647, 648, 649, 650, 651, 624, 625, 626] (by decide +kernel) (by decide +kernel)
set_option maxRecDepth 20000 in
theorem gL_law_X4_request : GoodIn wsL_law (wsV RL 21 RX4 yX4_request wsX4_request) := goodIn_app (goodIn_of _ (by decide +kernel)) ggL_law_X4_request
set_option maxRecDepth 20000 in
theorem ggL_law_X5_request : GoodIn wsL_law wsX5_request := goodIn_r _ [182, 183, 62, 60, 59, 63, 184, 185, 186, 5, 187, 81, 188, 189, 190, 191, 192, 193, 194, 195, 196, 197, 198, 199, 200, 201, 202, 203, 204, 205, 206, 207, 208, 74, 75, 76, 77, 78, 209, 210, 211, 212, 213, 214, 215, 61, 597, 598, 599, 600, 601, 602, 603, 604, 605, 606, 607, 608, 609, 610, 611, 612, 613, 614, 615, 616, 617, 618, 619, 620, 621, 622] (by decide +kernel) (by decide +kernel)
set_option maxRecDepth 20000 in
theorem gL_law_X5_request : GoodIn wsL_law (wsV RL 25 RX5 yX5_request wsX5_request) := goodIn_app (goodIn_of _ (by decide +kernel)) ggL_law_X5_request
set_option maxRecDepth 20000 in
theorem ggL_law_X4_deliver : GoodIn wsL_law wsX4_deliver := goodIn_r _ [219, 23, 29, 220, 221, 25, 222, 223, 224, 22, 225, 226, 227, 228, 229, 230, 177, 39, 231, 232, 233, 2, 234, 235, 143, 144, 145, 236, 237, 238, 239, 240, 241, 27, 242, 243, 108, 244, 245, 246, 247, 248, 103, 48, 249, 250, 155, 156, 157, 158, 51, 159, 160, 45, 50, 49, 161, 162, 163, 164, 165, 14, 15, 166, 167, 168, 169, 170, 171, 172, 173, 174, 175, 176, 178, 251, 252, 253, 254, 255, 53, 47, 256, 257, 258, 259, 260, 261, 262, 263, 264, 265, 109, 110, 111, 112, 46, 266, 267, 268, 269, 270, 271, 272, 273, 274, 275, 276, 277, 278, 279, 104, 105, 106, 107, 280, 118, 119, 18, 120, 34, 281, 282, 283, 284, 285, 286, 287, 288, 54, 289, 100, 101, 102, 290, 291, 292, 293, 294, 295, 296, 297, 298, 299, 300, 301, 302, 303, 304, 305, 306, 307, 308, 309, 310, 311, 52, 312, 152, 153, 154, 313, 314, 315, 316, 317, 318, 319, 320, 321, 322, 323, 324, 325, 326, 327, 328, 329, 330, 331, 332, 134, 333, 334, 335, 336, 337, 594, 595, 596, 644, 645, 646, 647, 648, 649, 650, 651, 624, 625, 626, 627, 628, 629, 630, 631, 632, 633, 634, 635, 636, 637, 638, 639, 640, 641, 642, 643, 623] (by decide +kernel) (by decide +kernel)
set_option maxRecDepth 20000 in
theorem gL_law_X4_deliver : GoodIn wsL_law (wsV RL 26 RX4 yX4_deliver wsX4_deliver) := goodIn_app (goodIn_of _ (by decide +kernel)) ggL_law_X4_deliver
set_option maxRecDepth 20000 in
theorem ggL_law_X5_deliver : GoodIn wsL_law wsX5_deliver := goodIn_r _ [341, 73, 74, 75, 342, 343, 344, 5, 345, 207, 79, 188, 189, 190, 346, 347, 348, 349, 77, 76, 62, 63, 78, 350, 351, 352, 353, 61, 60, 354, 355, 356, 357, 64, 212, 213, 214, 215, 59, 358, 359, 360, 361, 362, 363, 364, 365, 366, 367, 81, 203, 204, 205, 206, 208, 209, 210, 211, 191, 192, 193, 194, 368, 369, 370, 371, 67, 82, 372, 373, 374, 375, 68, 65, 376, 377, 378, 379, 380, 381, 382, 383, 69, 199, 200, 201, 202, 384, 385, 386, 387, 388, 389, 390, 391, 70, 392, 393, 394, 395, 396, 397, 398, 399, 400, 401, 402, 403, 66, 71, 72, 597, 598, 599, 600, 601, 602, 603, 604, 605, 606, 607, 608, 609, 610, 611, 612, 613, 614, 615, 616, 617, 618, 619, 620, 621, 622] (by decide +kernel) (by decide +kernel)
set_option maxRecDepth 20000 in
theorem gL_law_X5_deliver : GoodIn wsL_law (wsV RL 30 RX5 yX5_deliver wsX5_deliver) := goodIn_app (goodIn_of _ (by decide +kernel)) ggL_law_X5_deliver
set_option maxRecDepth 20000 in
theorem ggL_law_X4_drop : GoodIn wsL_law wsX4_drop := goodIn_r _ [407, 23, 408, 222, 223, 224, 22, 225, 226, 227, 228, 229, 230, 177, 39, 594, 595, 596, 644, 645, 646, 647, 648, 649, 650, 651, 624, 625, 626] (by decide +kernel) (by decide +kernel)
set_option maxRecDepth 20000 in
theorem gL_law_X4_drop : GoodIn wsL_law (wsV RL 31 RX4 yX4_drop wsX4_drop) := goodIn_app (goodIn_of _ (by decide +kernel)) ggL_law_X4_drop
set_option maxRecDepth 20000 in
theorem ggL_law_X5_drop : GoodIn wsL_law wsX5_drop := goodIn_r _ [412, 79, 342, 343, 344, 5, 345, 207, 188, 189, 190, 597, 598, 599, 600, 601, 602, 603, 604, 605, 606, 607, 608, 609, 610, 611, 612, 613, 614, 615, 616, 617, 618, 619, 620, 621, 622] (by decide +kernel) (by decide +kernel)
set_option maxRecDepth 20000 in
theorem gL_law_X5_drop : GoodIn wsL_law (wsV RL 34 RX5 yX5_drop wsX5_drop) := goodIn_app (goodIn_of _ (by decide +kernel)) ggL_law_X5_drop
set_option maxRecDepth 20000 in
theorem ggL_law_X4_cut : GoodIn wsL_law wsX4_cut := goodIn_r _ [416, 29, 88, 89, 90, 2, 91, 25, 231, 232, 233, 234, 235, 143, 144, 145, 236, 237, 238, 594, 595, 596] (by decide +kernel) (by decide +kernel)
set_option maxRecDepth 20000 in
theorem gL_law_X4_cut : GoodIn wsL_law (wsV RL 35 RX4 yX4_cut wsX4_cut) := goodIn_app (goodIn_of _ (by decide +kernel)) ggL_law_X4_cut
set_option maxRecDepth 20000 in
theorem ggL_law_X5_cut : GoodIn wsL_law wsX5_cut := goodIn_r _ [420, 73, 184, 185, 186, 5, 187, 81, 188, 189, 190, 597, 598, 599, 600, 601, 602, 603, 604, 605, 606, 607, 608, 609, 610, 611, 612, 613, 614, 615, 616, 617, 618, 619, 620, 621, 622] (by decide +kernel) (by decide +kernel)
set_option maxRecDepth 20000 in
theorem gL_law_X5_cut : GoodIn wsL_law (wsV RL 39 RX5 yX5_cut wsX5_cut) := goodIn_app (goodIn_of _ (by decide +kernel)) ggL_law_X5_cut
set_option maxRecDepth 20000 in
theorem ggL_law_X4_timeout : GoodIn wsL_law wsX4_timeout := goodIn_r _ [424, 425, 88, 89, 90, 2, 91, 25, 426, 272, 273, 27, 274, 103, 427, 305, 306, 307, 108, 308, 309, 310, 311, 302, 303, 46, 52, 312, 152, 153, 154, 45, 48, 155, 156, 157, 158, 51, 159, 160, 50, 49, 161, 162, 163, 164, 165, 14, 15, 166, 167, 168, 169, 170, 171, 172, 173, 174, 175, 22, 176, 177, 39, 178, 627, 628, 629, 630, 631, 632, 633, 634, 635, 636, 637, 638, 639, 640, 641, 642, 643, 594, 595, 596, 644, 645, 646, 647, 648, 649, 650, 651, 624, 625, 626] (by decide +kernel) (by decide +kernel)
set_option maxRecDepth 20000 in
theorem gL_law_X4_timeout : GoodIn wsL_law (wsV RL 40 RX4 yX4_timeout wsX4_timeout) := goodIn_app (goodIn_of _ (by decide +kernel)) ggL_law_X4_timeout
set_option maxRecDepth 20000 in
theorem ggL_law_X5_timeout : GoodIn wsL_law wsX5_timeout := goodIn_r _ [431, 62, 63, 184, 185, 186, 5, 187, 81, 188, 189, 190, 376, 377, 378, 379, 380, 381, 382, 383, 68, 69, 65, 199, 200, 201, 202, 203, 204, 205, 206, 207, 208, 74, 75, 76, 77, 78, 209, 210, 211, 212, 213, 214, 215, 60, 61, 59, 597, 598, 599, 600, 601, 602, 603, 604, 605, 606, 607, 608, 609, 610, 611, 612, 613, 614, 615, 616, 617, 618, 619, 620, 621, 622] (by decide +kernel) (by decide +kernel)
set_option maxRecDepth 20000 in
theorem gL_law_X5_timeout : GoodIn wsL_law (wsV RL 43 RX5 yX5_timeout wsX5_timeout) := goodIn_app (goodIn_of _ (by decide +kernel)) ggL_law_X5_timeout
set_option maxRecDepth 20000 in
theorem ggL_law_X4_resend : GoodIn wsL_law wsX4_resend := goodIn_r _ [435, 436, 88, 89, 90, 2, 91, 25, 437, 438, 439, 27, 440, 103, 46, 303, 255, 104, 105, 106, 107, 108, 45, 109, 110, 111, 112, 281, 282, 283, 284, 48, 50, 280, 118, 119, 18, 120, 34, 155, 156, 157, 158, 51, 159, 160, 49, 161, 162, 163, 164, 165, 14, 15, 166, 167, 168, 169, 170, 171, 172, 173, 174, 175, 22, 176, 177, 39, 178, 312, 152, 153, 154, 320, 321, 322, 323, 270, 52, 627, 628, 629, 630, 631, 632, 633, 634, 635, 636, 637, 638, 639, 640, 641, 642, 643, 594, 595, 596, 623, 644, 645, 646, 647, 648, 649, 650, 651, 624, 625, 626] (by decide +kernel) (by decide +kernel)
set_option maxRecDepth 20000 in
theorem gL_law_X4_resend : GoodIn wsL_law (wsV RL 44 RX4 yX4_resend wsX4_resend) := goodIn_app (goodIn_of _ (by decide +kernel)) ggL_law_X4_resend
set_option maxRecDepth 20000 in
theorem ggL_law_X5_resend : GoodIn wsL_law wsX5_resend := goodIn_r _ [444, 62, 63, 65, 81, 64, 66, 184, 185, 186, 5, 187, 188, 189, 190, 191, 192, 193, 194, 199, 200, 201, 202, 203, 204, 205, 206, 207, 208, 74, 75, 76, 77, 78, 209, 210, 211, 212, 213, 214, 215, 60, 61, 59, 364, 365, 366, 367, 597, 598, 599, 600, 601, 602, 603, 604, 605, 606, 607, 608, 609, 610, 611, 612, 613, 614, 615, 616, 617, 618, 619, 620, 621, 622] (by decide +kernel) (by decide +kernel)
set_option maxRecDepth 20000 in
theorem gL_law_X5_resend : GoodIn wsL_law (wsV RL 47 RX5 yX5_resend wsX5_resend) := goodIn_app (goodIn_of _ (by decide +kernel)) ggL_law_X5_resend
set_option maxRecDepth 20000 in
theorem ggL_law_X4_crash : GoodIn wsL_law wsX4_crash := goodIn_r _ [448, 436, 87, 88, 89, 90, 2, 91, 25, 126, 118, 119, 18, 120, 34, 449, 450, 451, 27, 452, 103, 108, 270, 161, 49, 50, 255, 54, 308, 309, 310, 311, 302, 303, 46, 52, 453, 454, 455, 456, 53, 331, 332, 134, 333, 627, 628, 629, 630, 631, 632, 633, 634, 635, 636, 637, 638, 639, 640, 641, 642, 643, 594, 595, 596, 623] (by decide +kernel) (by decide +kernel)
set_option maxRecDepth 20000 in
theorem gL_law_X4_crash : GoodIn wsL_law (wsV RL 48 RX4 yX4_crash wsX4_crash) := goodIn_app (goodIn_of _ (by decide +kernel)) ggL_law_X4_crash
set_option maxRecDepth 20000 in
theorem ggL_law_X5_crash : GoodIn wsL_law wsX5_crash := goodIn_r _ [460, 62, 60, 63, 64, 61, 67, 71, 184, 185, 186, 5, 187, 81, 188, 189, 190, 380, 381, 382, 383, 68, 69, 65, 597, 598, 599, 600, 601, 602, 603, 604, 605, 606, 607, 608, 609, 610, 611, 612, 613, 614, 615, 616, 617, 618, 619, 620, 621, 622] (by decide +kernel) (by decide +kernel)
set_option maxRecDepth 20000 in
theorem gL_law_X5_crash : GoodIn wsL_law (wsV RL 51 RX5 yX5_crash wsX5_crash) := goodIn_app (goodIn_of _ (by decide +kernel)) ggL_law_X5_crash
set_option maxRecDepth 20000 in
theorem ggL_law_X4_recover : GoodIn wsL_law wsX4_recover := goodIn_r _ [464, 95, 436, 88, 89, 90, 2, 91, 25, 465, 466, 467, 27, 468, 103, 255, 453, 454, 455, 456, 46, 53, 312, 152, 153, 154, 45, 48, 155, 156, 157, 158, 51, 159, 160, 108, 50, 49, 161, 162, 163, 164, 165, 14, 15, 166, 167, 168, 169, 170, 171, 172, 173, 174, 175, 22, 176, 177, 39, 178, 627, 628, 629, 630, 631, 632, 633, 634, 635, 636, 637, 638, 639, 640, 641, 642, 643, 594, 595, 596, 644, 645, 646, 647, 648, 649, 650, 651, 624, 625, 626] (by decide +kernel) (by decide +kernel)
set_option maxRecDepth 20000 in
theorem gL_law_X4_recover : GoodIn wsL_law (wsV RL 52 RX4 yX4_recover wsX4_recover) := goodIn_app (goodIn_of _ (by decide +kernel)) ggL_law_X4_recover
set_option maxRecDepth 20000 in
theorem ggL_law_X5_recover : GoodIn wsL_law wsX5_recover := goodIn_r _ [472, 183, 62, 66, 71, 184, 185, 186, 5, 187, 81, 188, 189, 190, 199, 200, 201, 202, 203, 204, 205, 206, 207, 208, 74, 75, 76, 77, 78, 209, 210, 211, 212, 213, 214, 215, 60, 61, 59, 597, 598, 599, 600, 601, 602, 603, 604, 605, 606, 607, 608, 609, 610, 611, 612, 613, 614, 615, 616, 617, 618, 619, 620, 621, 622] (by decide +kernel) (by decide +kernel)
set_option maxRecDepth 20000 in
theorem gL_law_X5_recover : GoodIn wsL_law (wsV RL 56 RX5 yX5_recover wsX5_recover) := goodIn_app (goodIn_of _ (by decide +kernel)) ggL_law_X5_recover
set_option maxRecDepth 20000 in
theorem ggL_law_X4_node : GoodIn wsL_law wsX4_node := goodIn_r _ [476, 88, 89, 90, 2, 91, 25, 477, 478, 479, 27, 480, 103, 108, 270, 50, 161, 302, 52, 303, 53, 280, 118, 119, 18, 120, 34, 313, 314, 315, 316, 317, 318, 319, 256, 257, 258, 594, 595, 596, 627, 628, 629, 630, 631, 632, 633, 634, 635, 636, 637, 638, 639, 640, 641, 642, 643, 623] (by decide +kernel) (by decide +kernel)
set_option maxRecDepth 20000 in
theorem gL_law_X4_node : GoodIn wsL_law (wsV RL 57 RX4 yX4_node wsX4_node) := goodIn_app (goodIn_of _ (by decide +kernel)) ggL_law_X4_node
set_option maxRecDepth 20000 in
theorem ggL_law_X5_node : GoodIn wsL_law wsX5_node := goodIn_r _ [484, 62, 63, 64, 60, 61, 65, 184, 185, 186, 5, 187, 81, 188, 189, 190, 384, 385, 386, 387, 68, 392, 393, 394, 395, 69, 485, 486, 487, 488, 71, 597, 598, 599, 600, 601, 602, 603, 604, 605, 606, 607, 608, 609, 610, 611, 612, 613, 614, 615, 616, 617, 618, 619, 620, 621, 622] (by decide +kernel) (by decide +kernel)
set_option maxRecDepth 20000 in
theorem gL_law_X5_node : GoodIn wsL_law (wsV RL 60 RX5 yX5_node wsX5_node) := goodIn_app (goodIn_of _ (by decide +kernel)) ggL_law_X5_node
set_option maxRecDepth 20000 in
theorem ggL_law_X4_entry : GoodIn wsL_law wsX4_entry := goodIn_r _ [492, 493, 87, 88, 89, 90, 2, 91, 25, 494, 122, 123, 18, 124, 125, 34, 117, 118, 119, 120, 627, 628, 629, 630, 631, 632, 633, 634, 635, 636, 637, 638, 639, 640, 641, 642, 643, 594, 595, 596, 623] (by decide +kernel) (by decide +kernel)
set_option maxRecDepth 20000 in
theorem gL_law_X4_entry : GoodIn wsL_law (wsV RL 61 RX4 yX4_entry wsX4_entry) := goodIn_app (goodIn_of _ (by decide +kernel)) ggL_law_X4_entry
set_option maxRecDepth 20000 in
theorem ggL_law_X5_entry : GoodIn wsL_law wsX5_entry := goodIn_r _ [498, 60, 499, 59, 184, 185, 186, 5, 187, 81, 188, 189, 190, 597, 598, 599, 600, 601, 602, 603, 604, 605, 606, 607, 608, 609, 610, 611, 612, 613, 614, 615, 616, 617, 618, 619, 620, 621, 622] (by decide +kernel) (by decide +kernel)
set_option maxRecDepth 20000 in
theorem gL_law_X5_entry : GoodIn wsL_law (wsV RL 65 RX5 yX5_entry wsX5_entry) := goodIn_app (goodIn_of _ (by decide +kernel)) ggL_law_X5_entry
set_option maxRecDepth 20000 in
theorem ggL_law_X4_register : GoodIn wsL_law wsX4_register := goodIn_r _ [503, 493, 88, 89, 90, 2, 91, 25, 504, 505, 506, 27, 507, 44, 50, 161, 331, 332, 134, 333, 508, 509, 510, 18, 511, 121, 122, 123, 124, 125, 34, 117, 118, 119, 120, 594, 595, 596, 627, 628, 629, 630, 631, 632, 633, 634, 635, 636, 637, 638, 639, 640, 641, 642, 643, 623] (by decide +kernel) (by decide +kernel)
set_option maxRecDepth 20000 in
theorem gL_law_X4_register : GoodIn wsL_law (wsV RL 66 RX4 yX4_register wsX4_register) := goodIn_app (goodIn_of _ (by decide +kernel)) ggL_law_X4_register
set_option maxRecDepth 20000 in
theorem ggL_law_X5_register : GoodIn wsL_law wsX5_register := goodIn_r _ [515, 499, 80, 61, 59, 184, 185, 186, 5, 187, 81, 188, 189, 190, 597, 598, 599, 600, 601, 602, 603, 604, 605, 606, 607, 608, 609, 610, 611, 612, 613, 614, 615, 616, 617, 618, 619, 620, 621, 622] (by decide +kernel) (by decide +kernel)
set_option maxRecDepth 20000 in
theorem gL_law_X5_register : GoodIn wsL_law (wsV RL 69 RX5 yX5_register wsX5_register) := goodIn_app (goodIn_of _ (by decide +kernel)) ggL_law_X5_register
set_option maxRecDepth 20000 in
theorem ggL_law_X4_known : GoodIn wsL_law wsX4_known := goodIn_r _ [519, 520, 88, 89, 90, 2, 91, 25, 99, 100, 101, 27, 102, 103, 104, 105, 106, 107, 108, 45, 109, 110, 111, 112, 46, 627, 628, 629, 630, 631, 632, 633, 634, 635, 636, 637, 638, 639, 640, 641, 642, 643, 594, 595, 596] (by decide +kernel) (by decide +kernel)
set_option maxRecDepth 20000 in
theorem gL_law_X4_known : GoodIn wsL_law (wsV RL 70 RX4 yX4_known wsX4_known) := goodIn_app (goodIn_of _ (by decide +kernel)) ggL_law_X4_known
set_option maxRecDepth 20000 in
theorem ggL_law_X5_known : GoodIn wsL_law wsX5_known := goodIn_r _ [524, 62, 67, 184, 185, 186, 5, 187, 81, 188, 189, 190, 191, 192, 193, 194, 63, 597, 598, 599, 600, 601, 602, 603, 604, 605, 606, 607, 608, 609, 610, 611, 612, 613, 614, 615, 616, 617, 618, 619, 620, 621, 622] (by decide +kernel) (by decide +kernel)
set_option maxRecDepth 20000 in
theorem gL_law_X5_known : GoodIn wsL_law (wsV RL 73 RX5 yX5_known wsX5_known) := goodIn_app (goodIn_of _ (by decide +kernel)) ggL_law_X5_known
set_option maxRecDepth 20000 in
theorem ggL_law_X4_letter : GoodIn wsL_law wsX4_letter := goodIn_r _ [528, 23, 529, 228, 229, 22, 230, 177, 39, 530, 531, 532, 160, 533, 166, 167, 168, 169, 170, 171, 172, 534, 535, 118, 119, 18, 120, 34, 594, 595, 596, 624, 625, 626, 644, 645, 646, 647, 648, 649, 650, 651, 623] (by decide +kernel) (by decide +kernel)
set_option maxRecDepth 20000 in
theorem gL_law_X4_letter : GoodIn wsL_law (wsV RL 74 RX4 yX4_letter wsX4_letter) := goodIn_app (goodIn_of _ (by decide +kernel)) ggL_law_X4_letter
set_option maxRecDepth 20000 in
theorem ggL_law_X5_letter : GoodIn wsL_law wsX5_letter := goodIn_r _ [539, 207, 76, 74, 75, 77, 60, 61, 78, 79, 188, 189, 5, 190, 209, 210, 211, 597, 598, 599, 600, 601, 602, 603, 604, 605, 606, 607, 608, 609, 610, 611, 612, 613, 614, 615, 616, 617, 618, 619, 620, 621, 622] (by decide +kernel) (by decide +kernel)
set_option maxRecDepth 20000 in
theorem gL_law_X5_letter : GoodIn wsL_law (wsV RL 77 RX5 yX5_letter wsX5_letter) := goodIn_app (goodIn_of _ (by decide +kernel)) ggL_law_X5_letter
set_option maxRecDepth 20000 in
theorem ggL_law_X4_count : GoodIn wsL_law wsX4_count := goodIn_r _ [543, 23, 544, 545, 546, 547, 548, 22, 549, 39, 226, 550, 551, 552, 2, 553, 29, 554, 555, 556, 557, 25, 436, 594, 595, 596, 624, 625, 626, 644, 645, 646, 647, 648, 649, 650, 651, 627, 628, 629, 630, 631, 632, 633, 634, 635, 636, 637, 638, 639, 640, 641, 642, 643] (by decide +kernel) (by decide +kernel)
set_option maxRecDepth 20000 in
theorem gL_law_X4_count : GoodIn wsL_law (wsV RL 78 RX4 yX4_count wsX4_count) := goodIn_app (goodIn_of _ (by decide +kernel)) ggL_law_X4_count
set_option maxRecDepth 20000 in
theorem ggL_law_X5_count : GoodIn wsL_law wsX5_count := goodIn_r _ [561, 207, 79, 208, 81, 73, 62, 597, 598, 599, 600, 601, 602, 603, 604, 605, 606, 607, 608, 609, 610, 611, 612, 613, 614, 615, 616, 617, 618, 619, 620, 621, 622] (by decide +kernel) (by decide +kernel)
set_option maxRecDepth 20000 in
theorem gL_law_X5_count : GoodIn wsL_law (wsV RL 81 RX5 yX5_count wsX5_count) := goodIn_app (goodIn_of _ (by decide +kernel)) ggL_law_X5_count
set_option maxRecDepth 20000 in
theorem ggL_law_X4_unlike : GoodIn wsL_law wsX4_unlike := goodIn_r _ [565, 25, 566, 235, 143, 144, 145, 87, 567, 568, 569, 18, 570, 121, 122, 123, 124, 125, 34, 117, 118, 119, 120, 594, 595, 596, 627, 628, 629, 630, 631, 632, 633, 634, 635, 636, 637, 638, 639, 640, 641, 642, 643, 623] (by decide +kernel) (by decide +kernel)
set_option maxRecDepth 20000 in
theorem gL_law_X4_unlike : GoodIn wsL_law (wsV RL 82 RX4 yX4_unlike wsX4_unlike) := goodIn_app (goodIn_of _ (by decide +kernel)) ggL_law_X4_unlike
set_option maxRecDepth 20000 in
theorem ggL_law_X5_unlike : GoodIn wsL_law wsX5_unlike := goodIn_r _ [574, 81, 61, 59, 361, 362, 5, 363, 597, 598, 599, 600, 601, 602, 603, 604, 605, 606, 607, 608, 609, 610, 611, 612, 613, 614, 615, 616, 617, 618, 619, 620, 621, 622] (by decide +kernel) (by decide +kernel)
set_option maxRecDepth 20000 in
theorem gL_law_X5_unlike : GoodIn wsL_law (wsV RL 86 RX5 yX5_unlike wsX5_unlike) := goodIn_app (goodIn_of _ (by decide +kernel)) ggL_law_X5_unlike
set_option maxRecDepth 20000 in
theorem ggL_law_X4_digest : GoodIn wsL_law wsX4_digest := goodIn_r _ [578, 579, 25, 23, 544, 580, 581, 582, 2, 583, 87, 477, 478, 479, 27, 480, 103, 108, 270, 50, 161, 302, 52, 303, 53, 280, 118, 119, 18, 120, 34, 313, 314, 315, 316, 317, 318, 319, 256, 257, 258, 126, 494, 122, 123, 124, 125, 117, 504, 505, 506, 507, 44, 331, 332, 134, 333, 508, 509, 510, 511, 121, 584, 526, 527, 528, 529, 228, 229, 22, 230, 177, 39, 530, 531, 532, 160, 533, 166, 167, 168, 169, 170, 171, 172, 534, 535, 594, 595, 596, 624, 625, 626, 627, 628, 629, 630, 631, 632, 633, 634, 635, 636, 637, 638, 639, 640, 641, 642, 643, 623, 644, 645, 646, 647, 648, 649, 650, 651] (by decide +kernel) (by decide +kernel)
set_option maxRecDepth 20000 in
theorem gL_law_X4_digest : GoodIn wsL_law (wsV RL 87 RX4 yX4_digest wsX4_digest) := goodIn_app (goodIn_of _ (by decide +kernel)) ggL_law_X4_digest
set_option maxRecDepth 20000 in
theorem ggL_law_X5_digest : GoodIn wsL_law wsX5_digest := goodIn_r _ [588, 589, 81, 590, 60, 59, 207, 591, 482, 483, 5, 484, 62, 63, 64, 61, 65, 184, 185, 186, 187, 188, 189, 190, 384, 385, 386, 387, 68, 392, 393, 394, 395, 69, 485, 486, 487, 488, 71, 592, 513, 514, 515, 499, 80, 593, 537, 538, 539, 76, 74, 75, 77, 78, 79, 209, 210, 211, 597, 598, 599, 600, 601, 602, 603, 604, 605, 606, 607, 608, 609, 610, 611, 612, 613, 614, 615, 616, 617, 618, 619, 620, 621, 622] (by decide +kernel) (by decide +kernel)
set_option maxRecDepth 20000 in
theorem gL_law_X5_digest : GoodIn wsL_law (wsV RL 91 RX5 yX5_digest wsX5_digest) := goodIn_app (goodIn_of _ (by decide +kernel)) ggL_law_X5_digest
theorem dL_law_0 : decode cL_law 0 = .ok (.new 7, 3) := by decide +kernel
theorem dL_law_3 : decode cL_law 3 = .ok (.dup, 1) := by decide +kernel
theorem dL_law_4 : decode cL_law 4 = .ok (.aload_n 0, 1) := by decide +kernel
theorem dL_law_5 : decode cL_law 5 = .ok (.iconst 0, 1) := by decide +kernel
theorem dL_law_6 : decode cL_law 6 = .ok (.invokestatic 9, 3) := by decide +kernel
theorem dL_law_9 : decode cL_law 9 = .ok (.invokespecial 15, 3) := by decide +kernel
theorem dL_law_12 : decode cL_law 12 = .ok (.astore_n 1, 1) := by decide +kernel
theorem dL_law_13 : decode cL_law 13 = .ok (.new 18, 3) := by decide +kernel
theorem dL_law_16 : decode cL_law 16 = .ok (.dup, 1) := by decide +kernel
theorem dL_law_17 : decode cL_law 17 = .ok (.aload_n 0, 1) := by decide +kernel
theorem dL_law_18 : decode cL_law 18 = .ok (.iconst 0, 1) := by decide +kernel
theorem dL_law_19 : decode cL_law 19 = .ok (.invokestatic 9, 3) := by decide +kernel
theorem dL_law_22 : decode cL_law 22 = .ok (.invokespecial 20, 3) := by decide +kernel
theorem dL_law_25 : decode cL_law 25 = .ok (.astore_n 2, 1) := by decide +kernel
theorem dL_law_26 : decode cL_law 26 = .ok (.iconst 1, 1) := by decide +kernel
theorem dL_law_27 : decode cL_law 27 = .ok (.istore_n 3, 1) := by decide +kernel
theorem dL_law_28 : decode cL_law 28 = .ok (.iload_n 3, 1) := by decide +kernel
theorem dL_law_29 : decode cL_law 29 = .ok (.aload_n 0, 1) := by decide +kernel
theorem dL_law_30 : decode cL_law 30 = .ok (.arraylength, 1) := by decide +kernel
theorem dL_law_31 : decode cL_law 31 = .ok (.bipush 8, 2) := by decide +kernel
theorem dL_law_33 : decode cL_law 33 = .ok (.isub, 1) := by decide +kernel
theorem dL_law_34 : decode cL_law 34 = .ok (.if_icmp .gt 611, 3) := by decide +kernel
theorem dL_law_37 : decode cL_law 37 = .ok (.aload_n 0, 1) := by decide +kernel
theorem dL_law_38 : decode cL_law 38 = .ok (.iload_n 3, 1) := by decide +kernel
theorem dL_law_39 : decode cL_law 39 = .ok (.iaload, 1) := by decide +kernel
theorem dL_law_40 : decode cL_law 40 = .ok (.bipush 15, 2) := by decide +kernel
theorem dL_law_42 : decode cL_law 42 = .ok (.iand, 1) := by decide +kernel
theorem dL_law_43 : decode cL_law 43 = .ok (.tableswitch 596 0 15 #[77, 164, 187, 210, 269, 292, 315, 338, 371, 404, 447, 480, 513, 546, 569, 582], 77) := by decide +kernel
theorem dL_law_120 : decode cL_law 120 = .ok (.aload_n 1, 1) := by decide +kernel
theorem dL_law_121 : decode cL_law 121 = .ok (.aload_n 0, 1) := by decide +kernel
theorem dL_law_122 : decode cL_law 122 = .ok (.iload_n 3, 1) := by decide +kernel
theorem dL_law_123 : decode cL_law 123 = .ok (.iconst 1, 1) := by decide +kernel
theorem dL_law_124 : decode cL_law 124 = .ok (.iadd, 1) := by decide +kernel
theorem dL_law_125 : decode cL_law 125 = .ok (.iaload, 1) := by decide +kernel
theorem dL_law_126 : decode cL_law 126 = .ok (.aload_n 0, 1) := by decide +kernel
theorem dL_law_127 : decode cL_law 127 = .ok (.iload_n 3, 1) := by decide +kernel
theorem dL_law_128 : decode cL_law 128 = .ok (.iconst 2, 1) := by decide +kernel
theorem dL_law_129 : decode cL_law 129 = .ok (.iadd, 1) := by decide +kernel
theorem dL_law_130 : decode cL_law 130 = .ok (.iaload, 1) := by decide +kernel
theorem dL_law_131 : decode cL_law 131 = .ok (.aload_n 0, 1) := by decide +kernel
theorem dL_law_132 : decode cL_law 132 = .ok (.iload_n 3, 1) := by decide +kernel
theorem dL_law_133 : decode cL_law 133 = .ok (.iconst 3, 1) := by decide +kernel
theorem dL_law_134 : decode cL_law 134 = .ok (.iadd, 1) := by decide +kernel
theorem dL_law_135 : decode cL_law 135 = .ok (.iaload, 1) := by decide +kernel
theorem dL_law_136 : decode cL_law 136 = .ok (.aload_n 0, 1) := by decide +kernel
theorem dL_law_137 : decode cL_law 137 = .ok (.iload_n 3, 1) := by decide +kernel
theorem dL_law_138 : decode cL_law 138 = .ok (.iconst 4, 1) := by decide +kernel
theorem dL_law_139 : decode cL_law 139 = .ok (.iadd, 1) := by decide +kernel
theorem dL_law_140 : decode cL_law 140 = .ok (.iaload, 1) := by decide +kernel
theorem dL_law_141 : decode cL_law 141 = .ok (.aload_n 0, 1) := by decide +kernel
theorem dL_law_142 : decode cL_law 142 = .ok (.iload_n 3, 1) := by decide +kernel
theorem dL_law_143 : decode cL_law 143 = .ok (.iconst 5, 1) := by decide +kernel
theorem dL_law_144 : decode cL_law 144 = .ok (.iadd, 1) := by decide +kernel
theorem dL_law_145 : decode cL_law 145 = .ok (.iaload, 1) := by decide +kernel
theorem dL_law_146 : decode cL_law 146 = .ok (.aload_n 0, 1) := by decide +kernel
theorem dL_law_147 : decode cL_law 147 = .ok (.iload_n 3, 1) := by decide +kernel
theorem dL_law_148 : decode cL_law 148 = .ok (.bipush 6, 2) := by decide +kernel
theorem dL_law_150 : decode cL_law 150 = .ok (.iadd, 1) := by decide +kernel
