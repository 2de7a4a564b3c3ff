set_option maxRecDepth 20000 in
theorem ggL_law_X7_init : GoodIn wsL_law wsX7_init := goodIn_r _ [8, 9, 10, 11, 12, 13, 14, 15, 16, 17, 18, 19, 20, 21, 22, 23, 24, 25, 26, 27, 28, 29, 30, 31, 32, 33, 34, 35, 36, 37, 38, 39, 40, 41, 42, 43, 44, 45, 46, 47, 48, 49, 50, 51, 52, 53, 54, 55, 56, 57, 58, 59, 60, 61, 62, 63, 64, 65, 66, 67, 68, 69, 70, 71, 72, 73, 74, 75, 76, 77, 78, 79, 80, 81, 82, 83, 84, 85, 86, 87, 88, 89, 90, 91, 92, 93, 94, 95, 96, 97, 98, 99, 100, 101, 102, 103, 104, 105, 106, 107, 108, 109, 717, 701, 702, 703, 704, 705, 706, 718, 719, 720, 721, 722, 723, 724, 725, 726, 727, 728, 729, 730, 731, 732, 733, 734, 735, 736, 737, 738, 739, 740, 741, 742] rfl (by decide +kernel)
set_option maxRecDepth 20000 in
theorem gL_law_X7_init : GoodIn wsL_law (wsX7_init) := ggL_law_X7_init
set_option maxRecDepth 20000 in
theorem ggL_law_X8_init : GoodIn wsL_law wsX8_init := goodIn_r _ [112, 113, 10, 11, 61, 114, 115, 63, 116, 117, 118, 119, 120, 121, 122, 123, 5, 124, 125, 126, 707, 708, 709, 710, 711, 712, 713, 714, 715, 716] rfl (by decide +kernel)
set_option maxRecDepth 20000 in
theorem gL_law_X8_init : GoodIn wsL_law (wsX8_init) := ggL_law_X8_init
set_option maxRecDepth 20000 in
theorem ggL_law_X7_seats : GoodIn wsL_law wsX7_seats := goodIn_r _ [130, 29, 28, 15, 19, 25, 131, 132, 133, 14, 134, 33, 135, 136, 137, 18, 138, 41, 39, 40, 139, 77, 78, 27, 79, 80, 81, 82, 62, 60, 83, 84, 85, 59, 86, 74, 75, 87, 88, 89, 90, 91, 92, 93, 94, 95, 55, 56, 64, 96, 97, 98, 54, 99, 69, 70, 100, 101, 102, 103, 104, 105, 106, 107, 108, 109, 701, 702, 703, 704, 705, 706, 717, 718, 719, 720, 721, 724, 725, 726, 727, 728, 729, 730, 731, 732, 733, 734, 735, 736, 737, 738, 741, 742, 739, 740] rfl (by decide +kernel)
set_option maxRecDepth 20000 in
theorem gL_law_X7_seats : GoodIn wsL_law (wsV RL 13 RX7 yX7_seats wsX7_seats) := goodIn_app (goodIn_of _ (by decide +kernel)) ggL_law_X7_seats
set_option maxRecDepth 20000 in
theorem ggL_law_X8_seats : GoodIn wsL_law wsX8_seats := goodIn_r _ [143, 144, 120, 145, 146, 5, 147, 121, 122, 123, 124, 125, 126, 114, 116, 117, 115, 119, 707, 708, 709, 710, 711, 712, 713, 714, 715, 716] rfl (by decide +kernel)
set_option maxRecDepth 20000 in
theorem gL_law_X8_seats : GoodIn wsL_law (wsV RL 17 RX8 yX8_seats wsX8_seats) := goodIn_app (goodIn_of _ (by decide +kernel)) ggL_law_X8_seats
set_option maxRecDepth 20000 in
theorem ggL_law_X7_falseSeat : GoodIn wsL_law wsX7_falseSeat := goodIn_r _ [151, 152, 28, 153, 154, 155, 2, 156, 15, 25, 157, 158, 159, 14, 160, 33, 161, 162, 163, 164, 165, 166, 167, 168, 724, 725, 726, 727, 728, 729, 730, 731, 732, 733, 734, 735, 736, 737, 738, 701, 702, 703, 704, 705, 706, 717] rfl (by decide +kernel)
set_option maxRecDepth 20000 in
theorem gL_law_X7_falseSeat : GoodIn wsL_law (wsV RL 18 RX7 yX7_falseSeat wsX7_falseSeat) := goodIn_app (goodIn_of _ (by decide +kernel)) ggL_law_X7_falseSeat
set_option maxRecDepth 20000 in
theorem ggL_law_X8_falseSeat : GoodIn wsL_law wsX8_falseSeat := goodIn_r _ [172, 114, 125, 173, 174, 175, 5, 176, 120, 145, 146, 147, 177, 178, 179, 180, 707, 708, 709, 710, 711, 712, 713, 714, 715, 716] rfl (by decide +kernel)
set_option maxRecDepth 20000 in
theorem gL_law_X8_falseSeat : GoodIn wsL_law (wsV RL 21 RX8 yX8_falseSeat wsX8_falseSeat) := goodIn_app (goodIn_of _ (by decide +kernel)) ggL_law_X8_falseSeat
set_option maxRecDepth 20000 in
theorem ggL_law_X7_hold : GoodIn wsL_law wsX7_hold := goodIn_r _ [184, 153, 154, 155, 2, 156, 15, 25, 157, 158, 159, 14, 160, 33, 185, 186, 187, 27, 188, 62, 82, 701, 702, 703, 704, 705, 706, 717, 724, 725, 726, 727, 728, 729, 730, 731, 732, 733, 734, 735, 736, 737, 738] rfl (by decide +kernel)
set_option maxRecDepth 20000 in
theorem gL_law_X7_hold : GoodIn wsL_law (wsV RL 22 RX7 yX7_hold wsX7_hold) := goodIn_app (goodIn_of _ (by decide +kernel)) ggL_law_X7_hold
set_option maxRecDepth 20000 in
theorem ggL_law_X8_hold : GoodIn wsL_law wsX8_hold := goodIn_r _ [192, 115, 173, 174, 175, 5, 176, 120, 145, 146, 147, 707, 708, 709, 710, 711, 712, 713, 714, 715, 716] rfl (by decide +kernel)
set_option maxRecDepth 20000 in
theorem gL_law_X8_hold : GoodIn wsL_law (wsV RL 26 RX8 yX8_hold wsX8_hold) := goodIn_app (goodIn_of _ (by decide +kernel)) ggL_law_X8_hold
set_option maxRecDepth 20000 in
theorem ggL_law_X7_begin : GoodIn wsL_law wsX7_begin := goodIn_r _ [196, 28, 15, 23, 19, 157, 158, 159, 14, 160, 33, 165, 166, 167, 2, 168, 152, 153, 154, 155, 156, 25, 197, 198, 199, 22, 200, 201, 46, 202, 203, 204, 205, 206, 207, 102, 103, 27, 104, 105, 106, 107, 108, 109, 208, 209, 210, 211, 212, 213, 214, 215, 64, 216, 217, 218, 219, 81, 220, 221, 222, 54, 223, 69, 224, 225, 226, 227, 62, 60, 228, 229, 230, 59, 231, 74, 232, 233, 234, 235, 47, 236, 237, 238, 239, 18, 240, 39, 40, 41, 38, 37, 241, 242, 243, 244, 245, 246, 247, 248, 249, 250, 251, 252, 253, 254, 255, 10, 11, 256, 257, 258, 259, 260, 261, 262, 263, 264, 265, 266, 267, 268, 269, 270, 271, 272, 273, 274, 275, 276, 277, 278, 279, 280, 281, 282, 283, 284, 285, 286, 287, 288, 289, 290, 291, 292, 293, 294, 295, 296, 297, 298, 299, 300, 301, 302, 303, 304, 305, 306, 307, 308, 309, 310, 311, 312, 313, 314, 315, 316, 317, 318, 319, 75, 91, 92, 93, 94, 95, 55, 56, 96, 97, 98, 99, 70, 100, 88, 89, 90, 101, 320, 321, 322, 323, 324, 325, 326, 327, 328, 329, 330, 331, 332, 333, 334, 335, 336, 337, 338, 339, 340, 341, 342, 343, 344, 345, 346, 347, 348, 349, 350, 351, 352, 353, 354, 355, 356, 357, 358, 359, 360, 361, 362, 363, 364, 365, 366, 367, 368, 369, 370, 371, 372, 373, 374, 375, 701, 702, 703, 704, 705, 706, 717, 724, 725, 726, 727, 728, 729, 730, 731, 732, 733, 734, 735, 736, 737, 738, 722, 723, 739, 740, 741, 742, 718, 719, 720, 721, 743, 744, 745, 746, 747, 748, 749, 750] rfl (by decide +kernel)
set_option maxRecDepth 20000 in
theorem gL_law_X7_begin : GoodIn wsL_law (wsV RL 27 RX7 yX7_begin wsX7_begin) := goodIn_app (goodIn_of _ (by decide +kernel)) ggL_law_X7_begin
set_option maxRecDepth 20000 in
theorem ggL_law_X8_begin : GoodIn wsL_law wsX8_begin := goodIn_r _ [379, 125, 120, 114, 126, 380, 381, 382, 5, 383, 115, 384, 385, 386, 387, 116, 388, 389, 390, 391, 392, 393, 394, 395, 396, 397, 398, 399, 400, 401, 402, 403, 118, 119, 404, 405, 406, 407, 117, 408, 409, 410, 411, 412, 413, 414, 415, 416, 417, 418, 419, 420, 421, 422, 423, 424, 425, 426, 427, 428, 429, 430, 431, 432, 433, 434, 435, 436, 437, 438, 439, 440, 441, 442, 443, 444, 445, 446, 447, 448, 449, 450, 451, 145, 146, 147, 452, 453, 454, 455, 456, 457, 458, 459, 460, 461, 462, 463, 707, 708, 709, 710, 711, 712, 713, 714, 715, 716] rfl (by decide +kernel)
set_option maxRecDepth 20000 in
theorem gL_law_X8_begin : GoodIn wsL_law (wsV RL 31 RX8 yX8_begin wsX8_begin) := goodIn_app (goodIn_of _ (by decide +kernel)) ggL_law_X8_begin
set_option maxRecDepth 20000 in
theorem ggL_law_X7_say : GoodIn wsL_law wsX7_say := goodIn_r _ [467, 152, 28, 19, 153, 154, 155, 2, 156, 15, 25, 157, 158, 159, 14, 160, 33, 468, 251, 252, 469, 470, 471, 472, 473, 474, 18, 475, 41, 38, 372, 373, 374, 375, 476, 238, 239, 240, 39, 40, 37, 241, 242, 243, 244, 245, 246, 247, 248, 249, 250, 253, 254, 255, 10, 11, 724, 725, 726, 727, 728, 729, 730, 731, 732, 733, 734, 735, 736, 737, 738, 701, 702, 703, 704, 705, 706, 717, 718, 719, 720, 721, 743, 744, 745, 746, 747, 748, 749, 750] rfl (by decide +kernel)
set_option maxRecDepth 20000 in
theorem gL_law_X7_say : GoodIn wsL_law (wsV RL 32 RX7 yX7_say wsX7_say) := goodIn_app (goodIn_of _ (by decide +kernel)) ggL_law_X7_say
set_option maxRecDepth 20000 in
theorem ggL_law_X8_say : GoodIn wsL_law wsX8_say := goodIn_r _ [480, 114, 125, 126, 173, 174, 175, 5, 176, 120, 145, 146, 147, 400, 401, 402, 403, 118, 119, 707, 708, 709, 710, 711, 712, 713, 714, 715, 716] rfl (by decide +kernel)
set_option maxRecDepth 20000 in
theorem gL_law_X8_say : GoodIn wsL_law (wsV RL 36 RX8 yX8_say wsX8_say) := goodIn_app (goodIn_of _ (by decide +kernel)) ggL_law_X8_say
set_option maxRecDepth 20000 in
theorem ggL_law_X7_come : GoodIn wsL_law wsX7_come := goodIn_r _ [484, 19, 152, 23, 485, 486, 487, 18, 488, 41, 38, 153, 154, 155, 2, 156, 15, 25, 157, 158, 159, 14, 160, 33, 489, 288, 289, 242, 290, 291, 490, 491, 492, 493, 256, 257, 258, 22, 259, 260, 261, 262, 263, 27, 264, 81, 265, 266, 267, 268, 269, 270, 271, 272, 273, 47, 202, 274, 275, 276, 277, 278, 279, 39, 251, 252, 280, 281, 282, 283, 203, 284, 46, 285, 286, 287, 208, 209, 210, 211, 292, 229, 230, 59, 231, 74, 293, 294, 295, 296, 297, 298, 299, 247, 243, 250, 300, 301, 302, 303, 304, 305, 306, 307, 308, 309, 310, 311, 312, 313, 314, 315, 60, 316, 317, 318, 319, 75, 91, 92, 93, 94, 95, 55, 56, 64, 96, 97, 98, 54, 99, 69, 70, 100, 88, 89, 90, 101, 102, 103, 104, 105, 106, 107, 108, 109, 320, 198, 199, 200, 201, 204, 205, 206, 207, 212, 213, 214, 215, 216, 217, 218, 219, 220, 221, 222, 223, 224, 225, 226, 227, 62, 228, 232, 233, 234, 235, 236, 237, 238, 239, 240, 40, 37, 241, 244, 245, 246, 248, 249, 253, 254, 255, 10, 11, 321, 322, 323, 324, 325, 326, 327, 328, 329, 330, 331, 332, 333, 334, 335, 336, 337, 338, 339, 340, 341, 342, 343, 344, 345, 346, 347, 348, 349, 350, 351, 352, 353, 354, 355, 356, 357, 358, 359, 360, 361, 362, 363, 364, 365, 366, 367, 368, 369, 370, 371, 372, 373, 374, 375, 701, 702, 703, 704, 705, 706, 724, 725, 726, 727, 728, 729, 730, 731, 732, 733, 734, 735, 736, 737, 738, 718, 719, 720, 721, 717, 743, 744, 745, 746, 747, 748, 749, 750, 722, 723, 741, 742, 739, 740] rfl (by decide +kernel)
set_option maxRecDepth 20000 in
theorem gL_law_X7_come : GoodIn wsL_law (wsV RL 37 RX7 yX7_come wsX7_come) := goodIn_app (goodIn_of _ (by decide +kernel)) ggL_law_X7_come
set_option maxRecDepth 20000 in
theorem ggL_law_X8_come : GoodIn wsL_law wsX8_come := goodIn_r _ [497, 126, 119, 114, 145, 146, 5, 147, 173, 174, 175, 176, 120, 498, 499, 500, 501, 408, 409, 410, 411, 412, 413, 414, 415, 388, 389, 390, 391, 116, 416, 417, 418, 419, 420, 421, 422, 423, 118, 117, 424, 425, 426, 427, 392, 393, 394, 395, 404, 405, 406, 407, 428, 429, 430, 431, 432, 433, 434, 435, 384, 385, 386, 387, 380, 381, 382, 383, 115, 396, 397, 398, 399, 400, 401, 402, 403, 436, 437, 438, 439, 440, 441, 442, 443, 444, 445, 446, 447, 448, 449, 450, 451, 452, 453, 454, 455, 456, 457, 458, 459, 460, 461, 462, 463, 707, 708, 709, 710, 711, 712, 713, 714, 715, 716] rfl (by decide +kernel)
set_option maxRecDepth 20000 in
theorem gL_law_X8_come : GoodIn wsL_law (wsV RL 40 RX8 yX8_come wsX8_come) := goodIn_app (goodIn_of _ (by decide +kernel)) ggL_law_X8_come
set_option maxRecDepth 20000 in
theorem ggL_law_X7_end : GoodIn wsL_law wsX7_end := goodIn_r _ [505, 23, 19, 153, 154, 155, 2, 156, 15, 25, 157, 158, 159, 14, 160, 33, 506, 507, 508, 27, 509, 64, 510, 511, 512, 22, 513, 338, 236, 514, 515, 516, 517, 518, 216, 217, 218, 219, 81, 105, 341, 342, 343, 344, 232, 233, 234, 235, 47, 203, 202, 237, 238, 239, 18, 240, 39, 40, 41, 38, 37, 241, 242, 243, 244, 245, 246, 247, 248, 249, 250, 251, 252, 253, 254, 255, 10, 11, 320, 198, 199, 200, 201, 46, 204, 205, 206, 207, 102, 103, 104, 106, 107, 108, 109, 208, 209, 210, 211, 212, 213, 214, 215, 220, 221, 222, 54, 223, 69, 224, 225, 226, 227, 62, 60, 228, 229, 230, 59, 231, 74, 256, 257, 258, 259, 260, 261, 262, 263, 264, 265, 266, 267, 268, 269, 270, 271, 272, 273, 274, 275, 276, 277, 278, 279, 280, 281, 282, 283, 284, 285, 286, 287, 288, 289, 290, 291, 292, 293, 294, 295, 296, 297, 298, 299, 300, 301, 302, 303, 304, 305, 306, 307, 308, 309, 310, 311, 312, 313, 314, 315, 316, 317, 318, 319, 75, 91, 92, 93, 94, 95, 55, 56, 96, 97, 98, 99, 70, 100, 88, 89, 90, 101, 321, 322, 323, 324, 325, 326, 327, 328, 329, 330, 331, 332, 333, 334, 335, 336, 337, 339, 340, 345, 346, 347, 348, 349, 350, 351, 352, 353, 354, 355, 356, 357, 358, 359, 360, 361, 362, 363, 364, 365, 366, 367, 368, 369, 370, 371, 372, 373, 374, 375, 701, 702, 703, 704, 705, 706, 717, 724, 725, 726, 727, 728, 729, 730, 731, 732, 733, 734, 735, 736, 737, 738, 722, 723, 718, 719, 720, 721, 743, 744, 745, 746, 747, 748, 749, 750, 739, 740, 741, 742] rfl (by decide +kernel)
set_option maxRecDepth 20000 in
theorem gL_law_X7_end : GoodIn wsL_law (wsV RL 41 RX7 yX7_end wsX7_end) := goodIn_app (goodIn_of _ (by decide +kernel)) ggL_law_X7_end
set_option maxRecDepth 20000 in
theorem ggL_law_X8_end : GoodIn wsL_law wsX8_end := goodIn_r _ [522, 126, 173, 174, 175, 5, 176, 120, 145, 146, 147, 388, 389, 390, 391, 116, 523, 524, 525, 526, 384, 385, 386, 387, 448, 449, 450, 451, 400, 401, 402, 403, 118, 119, 380, 381, 382, 383, 115, 392, 393, 394, 395, 396, 397, 398, 399, 404, 405, 406, 407, 117, 408, 409, 410, 411, 114, 412, 413, 414, 415, 416, 417, 418, 419, 420, 421, 422, 423, 424, 425, 426, 427, 428, 429, 430, 431, 432, 433, 434, 435, 436, 437, 438, 439, 440, 441, 442, 443, 444, 445, 446, 447, 452, 453, 454, 455, 456, 457, 458, 459, 460, 461, 462, 463, 707, 708, 709, 710, 711, 712, 713, 714, 715, 716] rfl (by decide +kernel)
set_option maxRecDepth 20000 in
theorem gL_law_X8_end : GoodIn wsL_law (wsV RL 44 RX8 yX8_end wsX8_end) := goodIn_app (goodIn_of _ (by decide +kernel)) ggL_law_X8_end
set_option maxRecDepth 20000 in
theorem ggL_law_X7_fair : GoodIn wsL_law wsX7_fair := goodIn_r _ [530, 28, 531, 532, 533, 2, 534, 19, 15, 23, 372, 373, 374, 18, 375, 41, 485, 486, 487, 488, 38, 157, 158, 159, 14, 160, 33, 165, 166, 167, 168, 152, 153, 154, 155, 156, 25, 489, 288, 289, 242, 290, 291, 490, 491, 492, 493, 256, 257, 258, 22, 259, 260, 261, 262, 263, 27, 264, 81, 265, 266, 267, 268, 269, 270, 271, 272, 273, 47, 202, 274, 275, 276, 277, 278, 279, 39, 251, 252, 280, 281, 282, 283, 203, 284, 46, 285, 286, 287, 208, 209, 210, 211, 292, 229, 230, 59, 231, 74, 293, 294, 295, 296, 297, 298, 299, 247, 243, 250, 300, 301, 302, 303, 304, 305, 306, 307, 308, 309, 310, 311, 312, 313, 314, 315, 60, 316, 317, 318, 319, 75, 91, 92, 93, 94, 95, 55, 56, 64, 96, 97, 98, 54, 99, 69, 70, 100, 88, 89, 90, 101, 102, 103, 104, 105, 106, 107, 108, 109, 320, 198, 199, 200, 201, 204, 205, 206, 207, 212, 213, 214, 215, 216, 217, 218, 219, 220, 221, 222, 223, 224, 225, 226, 227, 62, 228, 232, 233, 234, 235, 236, 237, 238, 239, 240, 40, 37, 241, 244, 245, 246, 248, 249, 253, 254, 255, 10, 11, 321, 322, 323, 324, 325, 326, 327, 328, 329, 330, 331, 332, 333, 334, 335, 336, 337, 338, 339, 340, 341, 342, 343, 344, 345, 346, 347, 348, 349, 350, 351, 352, 353, 354, 355, 356, 357, 358, 359, 360, 361, 362, 363, 364, 365, 366, 367, 368, 369, 370, 371, 535, 536, 537, 538, 506, 507, 508, 509, 510, 511, 512, 513, 514, 515, 516, 517, 518, 701, 702, 703, 704, 705, 706, 718, 719, 720, 721, 717, 724, 725, 726, 727, 728, 729, 730, 731, 732, 733, 734, 735, 736, 737, 738, 743, 744, 745, 746, 747, 748, 749, 750, 722, 723, 741, 742, 739, 740] rfl (by decide +kernel)
set_option maxRecDepth 20000 in
theorem gL_law_X7_fair : GoodIn wsL_law (wsV RL 45 RX7 yX7_fair wsX7_fair) := goodIn_app (goodIn_of _ (by decide +kernel)) ggL_law_X7_fair
set_option maxRecDepth 20000 in
theorem ggL_law_X8_fair : GoodIn wsL_law wsX8_fair := goodIn_r _ [542, 125, 145, 146, 5, 147, 543, 544, 545, 546, 126, 120, 114, 119, 498, 499, 500, 501, 408, 409, 410, 411, 412, 413, 414, 415, 388, 389, 390, 391, 116, 416, 417, 418, 419, 420, 421, 422, 423, 118, 117, 424, 425, 426, 427, 392, 393, 394, 395, 404, 405, 406, 407, 428, 429, 430, 431, 432, 433, 434, 435, 384, 385, 386, 387, 380, 381, 382, 383, 115, 396, 397, 398, 399, 400, 401, 402, 403, 436, 437, 438, 439, 440, 441, 442, 443, 444, 445, 446, 447, 448, 449, 450, 451, 452, 453, 454, 455, 456, 457, 458, 459, 460, 461, 462, 463, 523, 524, 525, 526, 707, 708, 709, 710, 711, 712, 713, 714, 715, 716] rfl (by decide +kernel)
set_option maxRecDepth 20000 in
theorem gL_law_X8_fair : GoodIn wsL_law (wsV RL 48 RX8 yX8_fair wsX8_fair) := goodIn_app (goodIn_of _ (by decide +kernel)) ggL_law_X8_fair
set_option maxRecDepth 20000 in
theorem ggL_law_X7_seat : GoodIn wsL_law wsX7_seat := goodIn_r _ [550, 551, 552, 553, 554, 555, 556, 557, 558, 153, 154, 155, 2, 156, 15, 25, 157, 158, 159, 14, 160, 33, 559, 560, 561, 27, 562, 64, 518, 507, 508, 509, 563, 564, 565, 566, 80, 95, 567, 262, 263, 264, 81, 724, 725, 726, 727, 728, 729, 730, 731, 732, 733, 734, 735, 736, 737, 738, 739, 740, 701, 702, 703, 704, 705, 706, 717] rfl (by decide +kernel)
set_option maxRecDepth 20000 in
theorem gL_law_X7_seat : GoodIn wsL_law (wsV RL 49 RX7 yX7_seat wsX7_seat) := goodIn_app (goodIn_of _ (by decide +kernel)) ggL_law_X7_seat
set_option maxRecDepth 20000 in
theorem ggL_law_X8_seat : GoodIn wsL_law wsX8_seat := goodIn_r _ [571, 114, 173, 174, 175, 5, 176, 120, 145, 146, 147, 388, 389, 390, 391, 116, 412, 413, 414, 415, 572, 573, 574, 575, 115, 707, 708, 709, 710, 711, 712, 713, 714, 715, 716] rfl (by decide +kernel)
set_option maxRecDepth 20000 in
theorem gL_law_X8_seat : GoodIn wsL_law (wsV RL 52 RX8 yX8_seat wsX8_seat) := goodIn_app (goodIn_of _ (by decide +kernel)) ggL_law_X8_seat
set_option maxRecDepth 20000 in
theorem ggL_law_X7_decided : GoodIn wsL_law wsX7_decided := goodIn_r _ [579, 580, 153, 154, 155, 2, 156, 15, 25, 157, 158, 159, 14, 160, 33, 581, 582, 583, 59, 584, 74, 585, 586, 587, 588, 75, 589, 590, 591, 592, 593, 594, 595, 596, 724, 725, 726, 727, 728, 729, 730, 731, 732, 733, 734, 735, 736, 737, 738, 701, 702, 703, 704, 705, 706, 717, 741, 742] rfl (by decide +kernel)
set_option maxRecDepth 20000 in
theorem gL_law_X7_decided : GoodIn wsL_law (wsV RL 53 RX7 yX7_decided wsX7_decided) := goodIn_app (goodIn_of _ (by decide +kernel)) ggL_law_X7_decided
set_option maxRecDepth 20000 in
theorem ggL_law_X8_decided : GoodIn wsL_law wsX8_decided := goodIn_r _ [600, 117, 601, 602, 603, 173, 174, 175, 5, 176, 120, 145, 146, 147, 707, 708, 709, 710, 711, 712, 713, 714, 715, 716] rfl (by decide +kernel)
set_option maxRecDepth 20000 in
theorem gL_law_X8_decided : GoodIn wsL_law (wsV RL 57 RX8 yX8_decided wsX8_decided) := goodIn_app (goodIn_of _ (by decide +kernel)) ggL_law_X8_decided
set_option maxRecDepth 20000 in
theorem ggL_law_X7_letter : GoodIn wsL_law wsX7_letter := goodIn_r _ [607, 19, 608, 609, 610, 611, 612, 613, 614, 485, 486, 487, 18, 488, 41, 38, 615, 302, 303, 304, 305, 306, 307, 701, 702, 703, 704, 705, 706, 743, 744, 745, 746, 747, 748, 749, 750, 718, 719, 720, 721] rfl (by decide +kernel)
set_option maxRecDepth 20000 in
theorem gL_law_X7_letter : GoodIn wsL_law (wsV RL 58 RX7 yX7_letter wsX7_letter) := goodIn_app (goodIn_of _ (by decide +kernel)) ggL_law_X7_letter
set_option maxRecDepth 20000 in
theorem ggL_law_X8_letter : GoodIn wsL_law wsX8_letter := goodIn_r _ [619, 126, 118, 120, 119, 145, 146, 5, 147, 707, 708, 709, 710, 711, 712, 713, 714, 715, 716] rfl (by decide +kernel)
set_option maxRecDepth 20000 in
theorem gL_law_X8_letter : GoodIn wsL_law (wsV RL 61 RX8 yX8_letter wsX8_letter) := goodIn_app (goodIn_of _ (by decide +kernel)) ggL_law_X8_letter
set_option maxRecDepth 20000 in
theorem ggL_law_X7_votes : GoodIn wsL_law wsX7_votes := goodIn_r _ [623, 19, 153, 154, 155, 2, 156, 15, 25, 157, 158, 159, 14, 160, 33, 468, 251, 252, 624, 277, 278, 18, 279, 39, 625, 298, 299, 247, 243, 250, 300, 288, 289, 242, 290, 291, 301, 302, 303, 304, 305, 306, 307, 701, 702, 703, 704, 705, 706, 717, 718, 719, 720, 721, 743, 744, 745, 746, 747, 748, 749, 750] rfl (by decide +kernel)
set_option maxRecDepth 20000 in
theorem gL_law_X7_votes : GoodIn wsL_law (wsV RL 62 RX7 yX7_votes wsX7_votes) := goodIn_app (goodIn_of _ (by decide +kernel)) ggL_law_X7_votes
set_option maxRecDepth 20000 in
theorem ggL_law_X8_votes : GoodIn wsL_law wsX8_votes := goodIn_r _ [629, 173, 174, 175, 5, 176, 120, 145, 146, 147, 428, 429, 430, 431, 126, 119, 118, 707, 708, 709, 710, 711, 712, 713, 714, 715, 716] rfl (by decide +kernel)
set_option maxRecDepth 20000 in
theorem gL_law_X8_votes : GoodIn wsL_law (wsV RL 66 RX8 yX8_votes wsX8_votes) := goodIn_app (goodIn_of _ (by decide +kernel)) ggL_law_X8_votes
set_option maxRecDepth 20000 in
theorem ggL_law_X7_shown : GoodIn wsL_law wsX7_shown := goodIn_r _ [633, 19, 153, 154, 155, 2, 156, 15, 25, 157, 158, 159, 14, 160, 33, 634, 635, 636, 18, 637, 39, 243, 250, 300, 288, 289, 242, 290, 291, 638, 639, 640, 641, 642, 643, 701, 702, 703, 704, 705, 706, 717, 718, 719, 720, 721, 743, 744, 745, 746, 747, 748, 749, 750] rfl (by decide +kernel)
set_option maxRecDepth 20000 in
theorem gL_law_X7_shown : GoodIn wsL_law (wsV RL 67 RX7 yX7_shown wsX7_shown) := goodIn_app (goodIn_of _ (by decide +kernel)) ggL_law_X7_shown
set_option maxRecDepth 20000 in
theorem ggL_law_X8_shown : GoodIn wsL_law wsX8_shown := goodIn_r _ [647, 126, 118, 119, 173, 174, 175, 5, 176, 120, 145, 146, 147, 648, 649, 650, 651, 707, 708, 709, 710, 711, 712, 713, 714, 715, 716] rfl (by decide +kernel)
set_option maxRecDepth 20000 in
theorem gL_law_X8_shown : GoodIn wsL_law (wsV RL 70 RX8 yX8_shown wsX8_shown) := goodIn_app (goodIn_of _ (by decide +kernel)) ggL_law_X8_shown
set_option maxRecDepth 20000 in
theorem ggL_law_X7_count : GoodIn wsL_law wsX7_count := goodIn_r _ [655, 15, 19, 28, 157, 158, 159, 14, 160, 33, 161, 162, 163, 2, 164, 165, 166, 167, 168, 152, 153, 154, 155, 156, 25, 372, 373, 374, 18, 375, 41, 656, 657, 658, 659, 485, 486, 487, 488, 38, 489, 288, 289, 242, 290, 291, 660, 661, 662, 663, 551, 664, 665, 666, 667, 668, 669, 670, 671, 672, 673, 674, 675, 309, 310, 311, 676, 331, 332, 333, 677, 678, 679, 680, 681, 682, 683, 684, 580, 581, 582, 583, 59, 584, 74, 701, 702, 703, 704, 705, 706, 717, 724, 725, 726, 727, 728, 729, 730, 731, 732, 733, 734, 735, 736, 737, 738, 718, 719, 720, 721, 743, 744, 745, 746, 747, 748, 749, 750, 741, 742] rfl (by decide +kernel)
set_option maxRecDepth 20000 in
theorem gL_law_X7_count : GoodIn wsL_law (wsV RL 71 RX7 yX7_count wsX7_count) := goodIn_app (goodIn_of _ (by decide +kernel)) ggL_law_X7_count
set_option maxRecDepth 20000 in
theorem ggL_law_X8_count : GoodIn wsL_law wsX8_count := goodIn_r _ [688, 120, 126, 125, 177, 178, 179, 5, 180, 114, 689, 690, 691, 692, 119, 693, 694, 695, 696, 388, 389, 390, 391, 116, 432, 433, 434, 435, 440, 441, 442, 443, 697, 698, 699, 700, 117, 707, 708, 709, 710, 711, 712, 713, 714, 715, 716] rfl (by decide +kernel)
set_option maxRecDepth 20000 in
theorem gL_law_X8_count : GoodIn wsL_law (wsV RL 74 RX8 yX8_count wsX8_count) := goodIn_app (goodIn_of _ (by decide +kernel)) ggL_law_X8_count
