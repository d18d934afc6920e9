set_option maxRecDepth 20000 in
theorem ggL_law_X5_init : GoodIn wsL_law wsX5_init := goodIn_r _ [8, 9, 10, 11, 12, 13, 14, 15, 16, 17, 18, 19, 20, 21, 22, 23, 24, 25, 26, 27, 28, 29, 30, 31, 32, 33, 34, 35, 36, 37, 38, 39, 40, 41, 42, 43, 44, 45, 46, 47, 48, 49, 50, 51, 52, 53, 54, 55, 56, 57, 58, 59, 60, 61, 62, 63, 64, 65, 66, 67, 68, 69, 70, 71, 72, 73, 74, 75, 76, 754, 755, 719, 720, 721, 722, 723, 724, 725, 726, 727, 728, 729, 756, 757, 758, 759, 760, 761, 762, 763, 764, 765, 766, 767, 768, 769, 770, 771, 772, 773, 774, 775, 776, 777, 778] (by decide +kernel) (by decide +kernel)
set_option maxRecDepth 20000 in
theorem gL_law_X5_init : GoodIn wsL_law (wsX5_init) := ggL_law_X5_init
set_option maxRecDepth 20000 in
theorem ggL_law_X6_init : GoodIn wsL_law wsX6_init := goodIn_r _ [79, 80, 10, 11, 38, 81, 82, 83, 84, 85, 86, 87, 88, 89, 90, 730, 731, 732, 733, 734, 735, 736, 737, 738, 739, 740, 741, 742, 743, 744, 745, 746, 747, 748, 749, 750, 751, 752, 753] (by decide +kernel) (by decide +kernel)
set_option maxRecDepth 20000 in
theorem gL_law_X6_init : GoodIn wsL_law (wsX6_init) := ggL_law_X6_init
set_option maxRecDepth 20000 in
theorem ggL_law_X5_letter : GoodIn wsL_law wsX5_letter := goodIn_r _ [94, 28, 95, 96, 97, 27, 98, 99, 70, 100, 101, 102, 103, 719, 720, 721, 722, 723, 724, 725, 726, 727, 728, 729, 769, 770, 771, 772, 773, 774, 775] (by decide +kernel) (by decide +kernel)
set_option maxRecDepth 20000 in
theorem gL_law_X5_letter : GoodIn wsL_law (wsV RL 13 RX5 yX5_letter wsX5_letter) := goodIn_app (goodIn_of _ (by decide +kernel)) ggL_law_X5_letter
set_option maxRecDepth 20000 in
theorem ggL_law_X6_letter : GoodIn wsL_law wsX6_letter := goodIn_r _ [107, 108, 109, 81, 110, 111, 5, 112, 730, 731, 732, 733, 734, 735, 736, 737, 738, 739, 740, 741, 742, 743, 744, 745, 746, 747, 748, 749, 750, 751, 752, 753] (by decide +kernel) (by decide +kernel)
set_option maxRecDepth 20000 in
theorem gL_law_X6_letter : GoodIn wsL_law (wsV RL 17 RX6 yX6_letter wsX6_letter) := goodIn_app (goodIn_of _ (by decide +kernel)) ggL_law_X6_letter
set_option maxRecDepth 20000 in
theorem ggL_law_X5_blank : GoodIn wsL_law wsX5_blank := goodIn_r _ [116, 28, 117, 118, 119, 27, 120, 99, 719, 720, 721, 722, 723, 724, 725, 726, 727, 728, 729, 769, 770, 771, 772, 773, 774, 775] (by decide +kernel) (by decide +kernel)
set_option maxRecDepth 20000 in
theorem gL_law_X5_blank : GoodIn wsL_law (wsV RL 18 RX5 yX5_blank wsX5_blank) := goodIn_app (goodIn_of _ (by decide +kernel)) ggL_law_X5_blank
set_option maxRecDepth 20000 in
theorem ggL_law_X6_blank : GoodIn wsL_law wsX6_blank := goodIn_r _ [124, 109, 730, 731, 732, 733, 734, 735, 736, 737, 738, 739, 740, 741, 742, 743, 744, 745, 746, 747, 748, 749, 750, 751, 752, 753] (by decide +kernel) (by decide +kernel)
set_option maxRecDepth 20000 in
theorem gL_law_X6_blank : GoodIn wsL_law (wsV RL 22 RX6 yX6_blank wsX6_blank) := goodIn_app (goodIn_of _ (by decide +kernel)) ggL_law_X6_blank
set_option maxRecDepth 20000 in
theorem ggL_law_X5_fault : GoodIn wsL_law wsX5_fault := goodIn_r _ [128, 28, 129, 130, 131, 27, 132, 133, 134, 135, 99, 70, 136, 137, 138, 139, 140, 141, 142, 143, 144, 71, 145, 146, 147, 148, 719, 720, 721, 722, 723, 724, 725, 726, 727, 728, 729, 769, 770, 771, 772, 773, 774, 775] (by decide +kernel) (by decide +kernel)
set_option maxRecDepth 20000 in
theorem gL_law_X5_fault : GoodIn wsL_law (wsV RL 23 RX5 yX5_fault wsX5_fault) := goodIn_app (goodIn_of _ (by decide +kernel)) ggL_law_X5_fault
set_option maxRecDepth 20000 in
theorem ggL_law_X6_fault : GoodIn wsL_law wsX6_fault := goodIn_r _ [152, 153, 154, 155, 5, 156, 157, 158, 109, 81, 159, 160, 161, 162, 163, 164, 165, 166, 167, 168, 82, 110, 111, 112, 730, 731, 732, 733, 734, 735, 736, 737, 738, 739, 740, 741, 742, 743, 744, 745, 746, 747, 748, 749, 750, 751, 752, 753] (by decide +kernel) (by decide +kernel)
set_option maxRecDepth 20000 in
theorem gL_law_X6_fault : GoodIn wsL_law (wsV RL 26 RX6 yX6_fault wsX6_fault) := goodIn_app (goodIn_of _ (by decide +kernel)) ggL_law_X6_fault
set_option maxRecDepth 20000 in
theorem ggL_law_X5_tale : GoodIn wsL_law wsX5_tale := goodIn_r _ [172, 28, 20, 19, 129, 130, 131, 27, 132, 133, 134, 135, 99, 70, 136, 137, 138, 139, 140, 141, 142, 143, 144, 71, 145, 146, 147, 148, 100, 101, 102, 103, 173, 174, 175, 176, 177, 178, 179, 18, 180, 44, 181, 182, 183, 184, 185, 186, 187, 188, 189, 190, 191, 192, 193, 194, 195, 196, 45, 197, 198, 199, 14, 200, 201, 2, 202, 203, 204, 205, 206, 207, 208, 209, 210, 211, 212, 213, 214, 215, 216, 217, 218, 219, 220, 221, 222, 223, 224, 225, 39, 226, 227, 228, 229, 230, 231, 232, 233, 234, 235, 236, 237, 238, 239, 240, 241, 242, 243, 244, 245, 246, 247, 248, 249, 250, 719, 720, 721, 722, 723, 724, 725, 726, 727, 728, 729, 769, 770, 771, 772, 773, 774, 775, 756, 757, 754, 755] (by decide +kernel) (by decide +kernel)
set_option maxRecDepth 20000 in
theorem gL_law_X5_tale : GoodIn wsL_law (wsV RL 27 RX5 yX5_tale wsX5_tale) := goodIn_app (goodIn_of _ (by decide +kernel)) ggL_law_X5_tale
set_option maxRecDepth 20000 in
theorem ggL_law_X6_tale : GoodIn wsL_law wsX6_tale := goodIn_r _ [254, 109, 158, 255, 157, 82, 153, 154, 155, 5, 156, 81, 159, 160, 161, 162, 163, 164, 165, 166, 167, 168, 110, 111, 112, 256, 257, 258, 259, 260, 261, 262, 263, 264, 265, 266, 267, 268, 269, 270, 271, 272, 273, 83, 274, 275, 276, 277, 278, 279, 280, 281, 282, 283, 284, 285, 286, 287, 288, 289, 290, 291, 292, 293, 294, 730, 731, 732, 733, 734, 735, 736, 737, 738, 739, 740, 741, 742, 743, 744, 745, 746, 747, 748, 749, 750, 751, 752, 753] (by decide +kernel) (by decide +kernel)
set_option maxRecDepth 20000 in
theorem gL_law_X6_tale : GoodIn wsL_law (wsV RL 30 RX6 yX6_tale wsX6_tale) := goodIn_app (goodIn_of _ (by decide +kernel)) ggL_law_X6_tale
set_option maxRecDepth 20000 in
theorem ggL_law_X5_being : GoodIn wsL_law wsX5_being := goodIn_r _ [298, 15, 299, 300, 2, 301, 302, 303, 304, 14, 305, 209, 39, 719, 720, 721, 722, 723, 724, 725, 726, 727, 728, 729, 754, 755] (by decide +kernel) (by decide +kernel)
set_option maxRecDepth 20000 in
theorem gL_law_X5_being : GoodIn wsL_law (wsV RL 31 RX5 yX5_being wsX5_being) := goodIn_app (goodIn_of _ (by decide +kernel)) ggL_law_X5_being
set_option maxRecDepth 20000 in
theorem ggL_law_X6_being : GoodIn wsL_law wsX6_being := goodIn_r _ [309, 168, 310, 311, 312, 269, 83, 110, 111, 5, 112, 730, 731, 732, 733, 734, 735, 736, 737, 738, 739, 740, 741, 742, 743, 744, 745, 746, 747, 748, 749, 750, 751, 752, 753] (by decide +kernel) (by decide +kernel)
set_option maxRecDepth 20000 in
theorem gL_law_X6_being : GoodIn wsL_law (wsV RL 35 RX6 yX6_being wsX6_being) := goodIn_app (goodIn_of _ (by decide +kernel)) ggL_law_X6_being
set_option maxRecDepth 20000 in
theorem ggL_law_X5_about : GoodIn wsL_law wsX5_about := goodIn_r _ [316, 15, 19, 317, 206, 207, 14, 208, 209, 318, 223, 224, 225, 39, 319, 182, 183, 18, 184, 44, 320, 228, 229, 230, 45, 231, 232, 233, 234, 181, 226, 321, 322, 323, 324, 325, 326, 327, 328, 329, 330, 331, 332, 719, 720, 721, 722, 723, 724, 725, 726, 727, 728, 729, 754, 755, 756, 757] (by decide +kernel) (by decide +kernel)
set_option maxRecDepth 20000 in
theorem gL_law_X5_about : GoodIn wsL_law (wsV RL 36 RX5 yX5_about wsX5_about) := goodIn_app (goodIn_of _ (by decide +kernel)) ggL_law_X5_about
set_option maxRecDepth 20000 in
theorem ggL_law_X6_about : GoodIn wsL_law wsX6_about := goodIn_r _ [336, 265, 266, 267, 5, 268, 269, 110, 111, 112, 337, 338, 339, 340, 83, 255, 282, 283, 284, 285, 286, 287, 278, 279, 280, 281, 341, 342, 343, 344, 345, 346, 347, 348, 349, 350, 730, 731, 732, 733, 734, 735, 736, 737, 738, 739, 740, 741, 742, 743, 744, 745, 746, 747, 748, 749, 750, 751, 752, 753] (by decide +kernel) (by decide +kernel)
set_option maxRecDepth 20000 in
theorem gL_law_X6_about : GoodIn wsL_law (wsV RL 40 RX6 yX6_about wsX6_about) := goodIn_app (goodIn_of _ (by decide +kernel)) ggL_law_X6_about
set_option maxRecDepth 20000 in
theorem ggL_law_X5_as : GoodIn wsL_law wsX5_as := goodIn_r _ [354, 15, 317, 206, 207, 14, 208, 209, 299, 300, 2, 301, 355, 218, 219, 220, 221, 222, 223, 224, 225, 39, 719, 720, 721, 722, 723, 724, 725, 726, 727, 728, 729, 754, 755] (by decide +kernel) (by decide +kernel)
set_option maxRecDepth 20000 in
theorem gL_law_X5_as : GoodIn wsL_law (wsV RL 41 RX5 yX5_as wsX5_as) := goodIn_app (goodIn_of _ (by decide +kernel)) ggL_law_X5_as
set_option maxRecDepth 20000 in
theorem ggL_law_X6_as : GoodIn wsL_law wsX6_as := goodIn_r _ [359, 168, 83, 265, 266, 267, 5, 268, 269, 110, 111, 112, 730, 731, 732, 733, 734, 735, 736, 737, 738, 739, 740, 741, 742, 743, 744, 745, 746, 747, 748, 749, 750, 751, 752, 753] (by decide +kernel) (by decide +kernel)
set_option maxRecDepth 20000 in
theorem gL_law_X6_as : GoodIn wsL_law (wsV RL 44 RX6 yX6_as wsX6_as) := goodIn_app (goodIn_of _ (by decide +kernel)) ggL_law_X6_as
set_option maxRecDepth 20000 in
theorem ggL_law_X5_may : GoodIn wsL_law wsX5_may := goodIn_r _ [363, 15, 19, 364, 198, 199, 14, 200, 201, 2, 202, 203, 204, 205, 206, 207, 208, 209, 210, 211, 212, 193, 194, 195, 18, 196, 45, 197, 213, 214, 215, 216, 181, 182, 183, 184, 44, 217, 218, 219, 220, 221, 222, 223, 224, 225, 39, 226, 227, 228, 229, 230, 231, 232, 233, 234, 235, 236, 237, 238, 239, 240, 241, 242, 719, 720, 721, 722, 723, 724, 725, 726, 727, 728, 729, 754, 755, 756, 757] (by decide +kernel) (by decide +kernel)
set_option maxRecDepth 20000 in
theorem gL_law_X5_may : GoodIn wsL_law (wsV RL 45 RX5 yX5_may wsX5_may) := goodIn_app (goodIn_of _ (by decide +kernel)) ggL_law_X5_may
set_option maxRecDepth 20000 in
theorem ggL_law_X6_may : GoodIn wsL_law wsX6_may := goodIn_r _ [368, 255, 256, 257, 258, 5, 259, 260, 261, 262, 263, 264, 110, 111, 112, 265, 266, 267, 268, 269, 270, 271, 272, 273, 83, 274, 275, 276, 277, 278, 279, 280, 281, 282, 283, 284, 285, 286, 287, 288, 289, 290, 291, 292, 293, 294, 730, 731, 732, 733, 734, 735, 736, 737, 738, 739, 740, 741, 742, 743, 744, 745, 746, 747, 748, 749, 750, 751, 752, 753] (by decide +kernel) (by decide +kernel)
set_option maxRecDepth 20000 in
theorem gL_law_X6_may : GoodIn wsL_law (wsV RL 48 RX6 yX6_may wsX6_may) := goodIn_app (goodIn_of _ (by decide +kernel)) ggL_law_X6_may
set_option maxRecDepth 20000 in
theorem ggL_law_X5_deed : GoodIn wsL_law wsX5_deed := goodIn_r _ [372, 15, 19, 373, 364, 198, 199, 14, 200, 201, 2, 202, 203, 204, 205, 206, 207, 208, 209, 210, 211, 212, 193, 194, 195, 18, 196, 45, 197, 213, 214, 215, 216, 181, 182, 183, 184, 44, 217, 218, 219, 220, 221, 222, 223, 224, 225, 39, 226, 227, 228, 229, 230, 231, 232, 233, 234, 235, 236, 237, 238, 239, 240, 241, 242, 243, 244, 245, 246, 247, 248, 249, 250, 719, 720, 721, 722, 723, 724, 725, 726, 727, 728, 729, 754, 755, 756, 757] (by decide +kernel) (by decide +kernel)
set_option maxRecDepth 20000 in
theorem gL_law_X5_deed : GoodIn wsL_law (wsV RL 49 RX5 yX5_deed wsX5_deed) := goodIn_app (goodIn_of _ (by decide +kernel)) ggL_law_X5_deed
set_option maxRecDepth 20000 in
theorem ggL_law_X6_deed : GoodIn wsL_law wsX6_deed := goodIn_r _ [377, 255, 378, 256, 257, 258, 5, 259, 260, 261, 262, 263, 264, 110, 111, 112, 265, 266, 267, 268, 269, 270, 271, 272, 273, 83, 274, 275, 276, 277, 278, 279, 280, 281, 282, 283, 284, 285, 286, 287, 288, 289, 290, 291, 292, 293, 294, 730, 731, 732, 733, 734, 735, 736, 737, 738, 739, 740, 741, 742, 743, 744, 745, 746, 747, 748, 749, 750, 751, 752, 753] (by decide +kernel) (by decide +kernel)
set_option maxRecDepth 20000 in
theorem gL_law_X6_deed : GoodIn wsL_law (wsV RL 52 RX6 yX6_deed wsX6_deed) := goodIn_app (goodIn_of _ (by decide +kernel)) ggL_law_X6_deed
set_option maxRecDepth 20000 in
theorem ggL_law_X5_number : GoodIn wsL_law wsX5_number := goodIn_r _ [382, 19, 383, 384, 385, 18, 386, 44, 719, 720, 721, 722, 723, 724, 725, 726, 727, 728, 729, 756, 757] (by decide +kernel) (by decide +kernel)
set_option maxRecDepth 20000 in
theorem gL_law_X5_number : GoodIn wsL_law (wsV RL 53 RX5 yX5_number wsX5_number) := goodIn_app (goodIn_of _ (by decide +kernel)) ggL_law_X5_number
set_option maxRecDepth 20000 in
theorem ggL_law_X6_number : GoodIn wsL_law wsX6_number := goodIn_r _ [390, 255, 730, 731, 732, 733, 734, 735, 736, 737, 738, 739, 740, 741, 742, 743, 744, 745, 746, 747, 748, 749, 750, 751, 752, 753] (by decide +kernel) (by decide +kernel)
set_option maxRecDepth 20000 in
theorem gL_law_X6_number : GoodIn wsL_law (wsV RL 56 RX6 yX6_number wsX6_number) := goodIn_app (goodIn_of _ (by decide +kernel)) ggL_law_X6_number
set_option maxRecDepth 20000 in
theorem ggL_law_X5_soonest : GoodIn wsL_law wsX5_soonest := goodIn_r _ [394, 15, 24, 19, 395, 396, 397, 14, 398, 399, 400, 401, 402, 209, 299, 300, 2, 301, 403, 404, 405, 23, 406, 60, 62, 61, 58, 407, 54, 408, 384, 385, 18, 386, 44, 409, 232, 233, 234, 410, 411, 412, 413, 55, 56, 414, 415, 416, 417, 64, 65, 418, 419, 420, 421, 422, 423, 424, 425, 426, 427, 428, 429, 430, 431, 432, 433, 434, 194, 195, 196, 45, 197, 198, 199, 200, 201, 202, 203, 204, 205, 206, 207, 208, 210, 211, 212, 213, 214, 215, 216, 181, 182, 183, 184, 217, 218, 219, 220, 221, 222, 223, 224, 225, 39, 226, 227, 228, 229, 230, 231, 235, 236, 237, 238, 239, 240, 241, 242, 435, 178, 179, 180, 436, 244, 245, 246, 247, 248, 249, 250, 437, 438, 439, 440, 441, 442, 443, 444, 445, 446, 719, 720, 721, 722, 723, 724, 725, 726, 727, 728, 729, 754, 755, 758, 759, 760, 761, 762, 763, 764, 765, 766, 767, 768, 756, 757] (by decide +kernel) (by decide +kernel)
set_option maxRecDepth 20000 in
theorem gL_law_X5_soonest : GoodIn wsL_law (wsV RL 57 RX5 yX5_soonest wsX5_soonest) := goodIn_app (goodIn_of _ (by decide +kernel)) ggL_law_X5_soonest
set_option maxRecDepth 20000 in
theorem ggL_law_X6_soonest : GoodIn wsL_law wsX6_soonest := goodIn_r _ [450, 269, 110, 111, 5, 112, 451, 452, 453, 454, 455, 86, 84, 85, 456, 457, 458, 459, 255, 256, 257, 258, 259, 260, 261, 262, 263, 264, 265, 266, 267, 268, 270, 271, 272, 273, 83, 274, 275, 276, 277, 278, 279, 280, 281, 282, 283, 284, 285, 286, 287, 288, 289, 290, 291, 292, 293, 294, 460, 461, 462, 730, 731, 732, 733, 734, 735, 736, 737, 738, 739, 740, 741, 742, 743, 744, 745, 746, 747, 748, 749, 750, 751, 752, 753] (by decide +kernel) (by decide +kernel)
set_option maxRecDepth 20000 in
theorem gL_law_X6_soonest : GoodIn wsL_law (wsV RL 60 RX6 yX6_soonest wsX6_soonest) := goodIn_app (goodIn_of _ (by decide +kernel)) ggL_law_X6_soonest
set_option maxRecDepth 20000 in
theorem ggL_law_X5_together : GoodIn wsL_law wsX5_together := goodIn_r _ [466, 15, 24, 19, 317, 206, 207, 14, 208, 209, 403, 404, 405, 23, 406, 60, 62, 61, 58, 407, 54, 408, 384, 385, 18, 386, 44, 409, 232, 233, 234, 410, 411, 412, 413, 55, 56, 414, 415, 416, 417, 64, 65, 418, 419, 420, 421, 422, 423, 424, 425, 426, 427, 428, 429, 430, 431, 432, 433, 434, 194, 195, 196, 45, 197, 198, 199, 200, 201, 2, 202, 203, 204, 205, 210, 211, 212, 213, 214, 215, 216, 181, 182, 183, 184, 217, 218, 219, 220, 221, 222, 223, 224, 225, 39, 226, 227, 228, 229, 230, 231, 235, 236, 237, 238, 239, 240, 241, 242, 435, 178, 179, 180, 436, 244, 245, 246, 247, 248, 249, 250, 467, 468, 469, 470, 471, 445, 719, 720, 721, 722, 723, 724, 725, 726, 727, 728, 729, 754, 755, 758, 759, 760, 761, 762, 763, 764, 765, 766, 767, 768, 756, 757] (by decide +kernel) (by decide +kernel)
set_option maxRecDepth 20000 in
theorem gL_law_X5_together : GoodIn wsL_law (wsV RL 61 RX5 yX5_together wsX5_together) := goodIn_app (goodIn_of _ (by decide +kernel)) ggL_law_X5_together
set_option maxRecDepth 20000 in
theorem ggL_law_X6_together : GoodIn wsL_law wsX6_together := goodIn_r _ [475, 455, 86, 84, 265, 266, 267, 5, 268, 269, 110, 111, 112, 456, 457, 458, 459, 255, 85, 256, 257, 258, 259, 260, 261, 262, 263, 264, 270, 271, 272, 273, 83, 274, 275, 276, 277, 278, 279, 280, 281, 282, 283, 284, 285, 286, 287, 288, 289, 290, 291, 292, 293, 294, 730, 731, 732, 733, 734, 735, 736, 737, 738, 739, 740, 741, 742, 743, 744, 745, 746, 747, 748, 749, 750, 751, 752, 753] (by decide +kernel) (by decide +kernel)
set_option maxRecDepth 20000 in
theorem gL_law_X6_together : GoodIn wsL_law (wsV RL 64 RX6 yX6_together wsX6_together) := goodIn_app (goodIn_of _ (by decide +kernel)) ggL_law_X6_together
set_option maxRecDepth 20000 in
theorem ggL_law_X5_deep : GoodIn wsL_law wsX5_deep := goodIn_r _ [479, 15, 24, 19, 317, 206, 207, 14, 208, 209, 403, 404, 405, 23, 406, 60, 62, 61, 58, 407, 54, 408, 384, 385, 18, 386, 44, 409, 232, 233, 234, 410, 411, 412, 413, 55, 56, 414, 415, 416, 417, 64, 65, 418, 419, 420, 421, 422, 423, 424, 425, 426, 427, 428, 429, 430, 431, 432, 433, 434, 194, 195, 196, 45, 197, 198, 199, 200, 201, 2, 202, 203, 204, 205, 210, 211, 212, 213, 214, 215, 216, 181, 182, 183, 184, 217, 218, 219, 220, 221, 222, 223, 224, 225, 39, 226, 227, 228, 229, 230, 231, 235, 236, 237, 238, 239, 240, 241, 242, 435, 178, 179, 180, 436, 244, 245, 246, 247, 248, 249, 250, 480, 481, 482, 483, 484, 485, 486, 487, 488, 322, 323, 324, 719, 720, 721, 722, 723, 724, 725, 726, 727, 728, 729, 754, 755, 758, 759, 760, 761, 762, 763, 764, 765, 766, 767, 768, 756, 757] (by decide +kernel) (by decide +kernel)
set_option maxRecDepth 20000 in
theorem gL_law_X5_deep : GoodIn wsL_law (wsV RL 65 RX5 yX5_deep wsX5_deep) := goodIn_app (goodIn_of _ (by decide +kernel)) ggL_law_X5_deep
set_option maxRecDepth 20000 in
theorem ggL_law_X6_deep : GoodIn wsL_law wsX6_deep := goodIn_r _ [492, 265, 266, 267, 5, 268, 269, 110, 111, 112, 456, 457, 458, 459, 84, 255, 85, 86, 455, 256, 257, 258, 259, 260, 261, 262, 263, 264, 270, 271, 272, 273, 83, 274, 275, 276, 277, 278, 279, 280, 281, 282, 283, 284, 285, 286, 287, 288, 289, 290, 291, 292, 293, 294, 493, 494, 495, 496, 341, 342, 343, 730, 731, 732, 733, 734, 735, 736, 737, 738, 739, 740, 741, 742, 743, 744, 745, 746, 747, 748, 749, 750, 751, 752, 753] (by decide +kernel) (by decide +kernel)
set_option maxRecDepth 20000 in
theorem gL_law_X6_deep : GoodIn wsL_law (wsV RL 68 RX6 yX6_deep wsX6_deep) := goodIn_app (goodIn_of _ (by decide +kernel)) ggL_law_X6_deep
set_option maxRecDepth 20000 in
theorem ggL_law_X5_many : GoodIn wsL_law wsX5_many := goodIn_r _ [500, 24, 19, 403, 404, 405, 23, 406, 60, 62, 61, 58, 407, 54, 408, 384, 385, 18, 386, 44, 409, 232, 233, 14, 234, 209, 410, 411, 412, 413, 55, 56, 414, 415, 416, 417, 64, 65, 418, 419, 420, 421, 422, 423, 424, 425, 426, 427, 428, 429, 430, 431, 432, 433, 434, 194, 195, 196, 45, 197, 198, 199, 200, 201, 2, 202, 203, 204, 205, 206, 207, 208, 210, 211, 212, 213, 214, 215, 216, 181, 182, 183, 184, 217, 218, 219, 220, 221, 222, 223, 224, 225, 39, 226, 227, 228, 229, 230, 231, 235, 236, 237, 238, 239, 240, 241, 242, 435, 178, 179, 180, 436, 244, 245, 246, 247, 248, 249, 250, 501, 502, 503, 504, 719, 720, 721, 722, 723, 724, 725, 726, 727, 728, 729, 758, 759, 760, 761, 762, 763, 764, 765, 766, 767, 768, 756, 757, 754, 755] (by decide +kernel) (by decide +kernel)
set_option maxRecDepth 20000 in
theorem gL_law_X5_many : GoodIn wsL_law (wsV RL 69 RX5 yX5_many wsX5_many) := goodIn_app (goodIn_of _ (by decide +kernel)) ggL_law_X5_many
set_option maxRecDepth 20000 in
theorem ggL_law_X6_many : GoodIn wsL_law wsX6_many := goodIn_r _ [508, 455, 456, 457, 458, 5, 459, 84, 255, 85, 86, 256, 257, 258, 259, 260, 261, 262, 263, 264, 110, 111, 112, 265, 266, 267, 268, 269, 270, 271, 272, 273, 83, 274, 275, 276, 277, 278, 279, 280, 281, 282, 283, 284, 285, 286, 287, 288, 289, 290, 291, 292, 293, 294, 730, 731, 732, 733, 734, 735, 736, 737, 738, 739, 740, 741, 742, 743, 744, 745, 746, 747, 748, 749, 750, 751, 752, 753] (by decide +kernel) (by decide +kernel)
set_option maxRecDepth 20000 in
theorem gL_law_X6_many : GoodIn wsL_law (wsV RL 72 RX6 yX6_many wsX6_many) := goodIn_app (goodIn_of _ (by decide +kernel)) ggL_law_X6_many
set_option maxRecDepth 20000 in
theorem ggL_law_X5_nesting : GoodIn wsL_law wsX5_nesting := goodIn_r _ [512, 24, 19, 403, 404, 405, 23, 406, 60, 62, 61, 58, 407, 54, 408, 384, 385, 18, 386, 44, 409, 232, 233, 14, 234, 209, 410, 411, 412, 413, 55, 56, 414, 415, 416, 417, 64, 65, 418, 419, 420, 421, 422, 423, 424, 425, 426, 427, 428, 429, 430, 431, 432, 433, 434, 194, 195, 196, 45, 197, 198, 199, 200, 201, 2, 202, 203, 204, 205, 206, 207, 208, 210, 211, 212, 213, 214, 215, 216, 181, 182, 183, 184, 217, 218, 219, 220, 221, 222, 223, 224, 225, 39, 226, 227, 228, 229, 230, 231, 235, 236, 237, 238, 239, 240, 241, 242, 435, 178, 179, 180, 436, 244, 245, 246, 247, 248, 249, 250, 513, 514, 515, 516, 719, 720, 721, 722, 723, 724, 725, 726, 727, 728, 729, 758, 759, 760, 761, 762, 763, 764, 765, 766, 767, 768, 756, 757, 754, 755] (by decide +kernel) (by decide +kernel)
set_option maxRecDepth 20000 in
theorem gL_law_X5_nesting : GoodIn wsL_law (wsV RL 73 RX5 yX5_nesting wsX5_nesting) := goodIn_app (goodIn_of _ (by decide +kernel)) ggL_law_X5_nesting
set_option maxRecDepth 20000 in
theorem ggL_law_X6_nesting : GoodIn wsL_law wsX6_nesting := goodIn_r _ [520, 84, 456, 457, 458, 5, 459, 255, 85, 86, 455, 256, 257, 258, 259, 260, 261, 262, 263, 264, 110, 111, 112, 265, 266, 267, 268, 269, 270, 271, 272, 273, 83, 274, 275, 276, 277, 278, 279, 280, 281, 282, 283, 284, 285, 286, 287, 288, 289, 290, 291, 292, 293, 294, 730, 731, 732, 733, 734, 735, 736, 737, 738, 739, 740, 741, 742, 743, 744, 745, 746, 747, 748, 749, 750, 751, 752, 753] (by decide +kernel) (by decide +kernel)
set_option maxRecDepth 20000 in
theorem gL_law_X6_nesting : GoodIn wsL_law (wsV RL 76 RX6 yX6_nesting wsX6_nesting) := goodIn_app (goodIn_of _ (by decide +kernel)) ggL_law_X6_nesting
set_option maxRecDepth 20000 in
theorem ggL_law_X5_told : GoodIn wsL_law wsX5_told := goodIn_r _ [524, 15, 32, 317, 206, 207, 14, 208, 209, 395, 396, 397, 398, 399, 400, 401, 402, 525, 526, 527, 31, 528, 529, 75, 76, 530, 531, 532, 533, 719, 720, 721, 722, 723, 724, 725, 726, 727, 728, 729, 754, 755, 776, 777, 778] (by decide +kernel) (by decide +kernel)
set_option maxRecDepth 20000 in
theorem gL_law_X5_told : GoodIn wsL_law (wsV RL 77 RX5 yX5_told wsX5_told) := goodIn_app (goodIn_of _ (by decide +kernel)) ggL_law_X5_told
set_option maxRecDepth 20000 in
theorem ggL_law_X6_told : GoodIn wsL_law wsX6_told := goodIn_r _ [537, 269, 538, 87, 265, 266, 267, 5, 268, 110, 111, 112, 730, 731, 732, 733, 734, 735, 736, 737, 738, 739, 740, 741, 742, 743, 744, 745, 746, 747, 748, 749, 750, 751, 752, 753] (by decide +kernel) (by decide +kernel)
set_option maxRecDepth 20000 in
theorem gL_law_X6_told : GoodIn wsL_law (wsV RL 80 RX6 yX6_told wsX6_told) := goodIn_app (goodIn_of _ (by decide +kernel)) ggL_law_X6_told
set_option maxRecDepth 20000 in
theorem ggL_law_X5_forget : GoodIn wsL_law wsX5_forget := goodIn_r _ [542, 32, 543, 544, 545, 31, 546, 529, 719, 720, 721, 722, 723, 724, 725, 726, 727, 728, 729, 776, 777, 778] (by decide +kernel) (by decide +kernel)
set_option maxRecDepth 20000 in
theorem gL_law_X5_forget : GoodIn wsL_law (wsV RL 81 RX5 yX5_forget wsX5_forget) := goodIn_app (goodIn_of _ (by decide +kernel)) ggL_law_X5_forget
set_option maxRecDepth 20000 in
theorem ggL_law_X6_forget : GoodIn wsL_law wsX6_forget := goodIn_r _ [550, 538, 730, 731, 732, 733, 734, 735, 736, 737, 738, 739, 740, 741, 742, 743, 744, 745, 746, 747, 748, 749, 750, 751, 752, 753] (by decide +kernel) (by decide +kernel)
set_option maxRecDepth 20000 in
theorem gL_law_X6_forget : GoodIn wsL_law (wsV RL 84 RX6 yX6_forget wsX6_forget) := goodIn_app (goodIn_of _ (by decide +kernel)) ggL_law_X6_forget
set_option maxRecDepth 20000 in
theorem ggL_law_X5_fits : GoodIn wsL_law wsX5_fits := goodIn_r _ [554, 24, 19, 32, 403, 404, 405, 23, 406, 60, 62, 61, 58, 407, 54, 408, 384, 385, 18, 386, 44, 409, 232, 233, 14, 234, 209, 410, 411, 412, 413, 55, 56, 414, 415, 416, 417, 64, 65, 418, 419, 420, 421, 422, 423, 424, 425, 426, 427, 428, 429, 430, 431, 432, 433, 434, 194, 195, 196, 45, 197, 198, 199, 200, 201, 2, 202, 203, 204, 205, 206, 207, 208, 210, 211, 212, 213, 214, 215, 216, 181, 182, 183, 184, 217, 218, 219, 220, 221, 222, 223, 224, 225, 39, 226, 227, 228, 229, 230, 231, 235, 236, 237, 238, 239, 240, 241, 242, 435, 178, 179, 180, 436, 244, 245, 246, 247, 248, 249, 250, 555, 556, 557, 558, 559, 560, 561, 31, 562, 529, 75, 76, 563, 326, 327, 328, 329, 330, 331, 332, 719, 720, 721, 722, 723, 724, 725, 726, 727, 728, 729, 758, 759, 760, 761, 762, 763, 764, 765, 766, 767, 768, 756, 757, 754, 755, 776, 777, 778] (by decide +kernel) (by decide +kernel)
set_option maxRecDepth 20000 in
theorem gL_law_X5_fits : GoodIn wsL_law (wsV RL 85 RX5 yX5_fits wsX5_fits) := goodIn_app (goodIn_of _ (by decide +kernel)) ggL_law_X5_fits
set_option maxRecDepth 20000 in
theorem ggL_law_X6_fits : GoodIn wsL_law wsX6_fits := goodIn_r _ [567, 456, 457, 458, 5, 459, 84, 255, 85, 86, 455, 256, 257, 258, 259, 260, 261, 262, 263, 264, 110, 111, 112, 265, 266, 267, 268, 269, 270, 271, 272, 273, 83, 274, 275, 276, 277, 278, 279, 280, 281, 282, 283, 284, 285, 286, 287, 288, 289, 290, 291, 292, 293, 294, 568, 569, 570, 571, 572, 573, 574, 575, 538, 87, 344, 345, 346, 347, 348, 349, 350, 730, 731, 732, 733, 734, 735, 736, 737, 738, 739, 740, 741, 742, 743, 744, 745, 746, 747, 748, 749, 750, 751, 752, 753] (by decide +kernel) (by decide +kernel)
set_option maxRecDepth 20000 in
theorem gL_law_X6_fits : GoodIn wsL_law (wsV RL 88 RX6 yX6_fits wsX6_fits) := goodIn_app (goodIn_of _ (by decide +kernel)) ggL_law_X6_fits
set_option maxRecDepth 20000 in
theorem ggL_law_X5_sure : GoodIn wsL_law wsX5_sure := goodIn_r _ [579, 15, 24, 19, 32, 317, 206, 207, 14, 208, 209, 403, 404, 405, 23, 406, 60, 62, 61, 58, 407, 54, 408, 384, 385, 18, 386, 44, 409, 232, 233, 234, 410, 411, 412, 413, 55, 56, 414, 415, 416, 417, 64, 65, 418, 419, 420, 421, 422, 423, 424, 425, 426, 427, 428, 429, 430, 431, 432, 433, 434, 194, 195, 196, 45, 197, 198, 199, 200, 201, 2, 202, 203, 204, 205, 210, 211, 212, 213, 214, 215, 216, 181, 182, 183, 184, 217, 218, 219, 220, 221, 222, 223, 224, 225, 39, 226, 227, 228, 229, 230, 231, 235, 236, 237, 238, 239, 240, 241, 242, 435, 178, 179, 180, 436, 244, 245, 246, 247, 248, 249, 250, 580, 581, 582, 583, 559, 560, 561, 31, 562, 529, 75, 76, 563, 326, 327, 328, 329, 330, 331, 332, 471, 719, 720, 721, 722, 723, 724, 725, 726, 727, 728, 729, 754, 755, 758, 759, 760, 761, 762, 763, 764, 765, 766, 767, 768, 756, 757, 776, 777, 778] (by decide +kernel) (by decide +kernel)
set_option maxRecDepth 20000 in
theorem gL_law_X5_sure : GoodIn wsL_law (wsV RL 89 RX5 yX5_sure wsX5_sure) := goodIn_app (goodIn_of _ (by decide +kernel)) ggL_law_X5_sure
set_option maxRecDepth 20000 in
theorem ggL_law_X6_sure : GoodIn wsL_law wsX6_sure := goodIn_r _ [587, 455, 86, 265, 266, 267, 5, 268, 269, 110, 111, 112, 456, 457, 458, 459, 84, 255, 85, 256, 257, 258, 259, 260, 261, 262, 263, 264, 270, 271, 272, 273, 83, 274, 275, 276, 277, 278, 279, 280, 281, 282, 283, 284, 285, 286, 287, 288, 289, 290, 291, 292, 293, 294, 572, 573, 574, 575, 538, 87, 344, 345, 346, 347, 348, 349, 350, 730, 731, 732, 733, 734, 735, 736, 737, 738, 739, 740, 741, 742, 743, 744, 745, 746, 747, 748, 749, 750, 751, 752, 753] (by decide +kernel) (by decide +kernel)
set_option maxRecDepth 20000 in
theorem gL_law_X6_sure : GoodIn wsL_law (wsV RL 92 RX6 yX6_sure wsX6_sure) := goodIn_app (goodIn_of _ (by decide +kernel)) ggL_law_X6_sure
set_option maxRecDepth 20000 in
theorem ggL_law_X5_ask : GoodIn wsL_law wsX5_ask := goodIn_r _ [591, 24, 19, 32, 403, 404, 405, 23, 406, 60, 62, 61, 58, 407, 54, 408, 384, 385, 18, 386, 44, 409, 232, 233, 14, 234, 209, 410, 411, 412, 413, 55, 56, 414, 415, 416, 417, 64, 65, 418, 419, 420, 421, 422, 423, 424, 425, 426, 427, 428, 429, 430, 431, 432, 433, 434, 194, 195, 196, 45, 197, 198, 199, 200, 201, 2, 202, 203, 204, 205, 206, 207, 208, 210, 211, 212, 213, 214, 215, 216, 181, 182, 183, 184, 217, 218, 219, 220, 221, 222, 223, 224, 225, 39, 226, 227, 228, 229, 230, 231, 235, 236, 237, 238, 239, 240, 241, 242, 435, 178, 179, 180, 436, 244, 245, 246, 247, 248, 249, 250, 592, 593, 594, 595, 596, 597, 598, 599, 59, 484, 485, 486, 487, 600, 47, 48, 49, 601, 326, 327, 328, 329, 330, 331, 332, 559, 560, 561, 31, 562, 529, 75, 76, 563, 719, 720, 721, 722, 723, 724, 725, 726, 727, 728, 729, 758, 759, 760, 761, 762, 763, 764, 765, 766, 767, 768, 756, 757, 754, 755, 776, 777, 778] (by decide +kernel) (by decide +kernel)
set_option maxRecDepth 20000 in
theorem gL_law_X5_ask : GoodIn wsL_law (wsV RL 93 RX5 yX5_ask wsX5_ask) := goodIn_app (goodIn_of _ (by decide +kernel)) ggL_law_X5_ask
set_option maxRecDepth 20000 in
theorem ggL_law_X6_ask : GoodIn wsL_law wsX6_ask := goodIn_r _ [605, 456, 457, 458, 5, 459, 84, 255, 85, 86, 455, 256, 257, 258, 259, 260, 261, 262, 263, 264, 110, 111, 112, 265, 266, 267, 268, 269, 270, 271, 272, 273, 83, 274, 275, 276, 277, 278, 279, 280, 281, 282, 283, 284, 285, 286, 287, 288, 289, 290, 291, 292, 293, 294, 606, 607, 608, 609, 568, 569, 570, 571, 572, 573, 574, 575, 538, 87, 344, 345, 346, 347, 348, 349, 350, 610, 611, 612, 613, 88, 730, 731, 732, 733, 734, 735, 736, 737, 738, 739, 740, 741, 742, 743, 744, 745, 746, 747, 748, 749, 750, 751, 752, 753] (by decide +kernel) (by decide +kernel)
set_option maxRecDepth 20000 in
theorem gL_law_X6_ask : GoodIn wsL_law (wsV RL 96 RX6 yX6_ask wsX6_ask) := goodIn_app (goodIn_of _ (by decide +kernel)) ggL_law_X6_ask
set_option maxRecDepth 20000 in
theorem ggL_law_X5_days : GoodIn wsL_law wsX5_days := goodIn_r _ [617, 20, 19, 618, 299, 300, 2, 301, 177, 178, 179, 18, 180, 44, 181, 182, 183, 184, 619, 620, 621, 622, 623, 194, 195, 196, 45, 197, 198, 199, 14, 200, 201, 202, 203, 204, 205, 206, 207, 208, 209, 210, 211, 212, 213, 214, 215, 216, 217, 218, 219, 220, 221, 222, 223, 224, 225, 39, 226, 227, 228, 229, 230, 231, 232, 233, 234, 235, 236, 237, 238, 239, 240, 241, 242, 624, 625, 626, 627, 628, 629, 630, 631, 632, 633, 243, 244, 245, 246, 247, 248, 249, 250, 383, 384, 385, 386, 719, 720, 721, 722, 723, 724, 725, 726, 727, 728, 729, 756, 757, 754, 755] (by decide +kernel) (by decide +kernel)
set_option maxRecDepth 20000 in
theorem gL_law_X5_days : GoodIn wsL_law (wsV RL 97 RX5 yX5_days wsX5_days) := goodIn_app (goodIn_of _ (by decide +kernel)) ggL_law_X5_days
set_option maxRecDepth 20000 in
theorem ggL_law_X6_days : GoodIn wsL_law wsX6_days := goodIn_r _ [637, 638, 639, 640, 255, 110, 111, 5, 112, 641, 642, 643, 644, 256, 257, 258, 259, 260, 261, 262, 263, 264, 265, 266, 267, 268, 269, 270, 271, 272, 273, 83, 274, 275, 276, 277, 278, 279, 280, 281, 282, 283, 284, 285, 286, 287, 288, 289, 290, 291, 292, 293, 294, 645, 646, 647, 648, 649, 650, 651, 652, 730, 731, 732, 733, 734, 735, 736, 737, 738, 739, 740, 741, 742, 743, 744, 745, 746, 747, 748, 749, 750, 751, 752, 753] (by decide +kernel) (by decide +kernel)
set_option maxRecDepth 20000 in
theorem gL_law_X6_days : GoodIn wsL_law (wsV RL 101 RX6 yX6_days wsX6_days) := goodIn_app (goodIn_of _ (by decide +kernel)) ggL_law_X6_days
set_option maxRecDepth 20000 in
theorem ggL_law_X5_image : GoodIn wsL_law wsX5_image := goodIn_r _ [656, 19, 657, 33, 32, 373, 658, 15, 34, 383, 384, 385, 18, 386, 44, 659, 660, 661, 31, 662, 75, 76, 529, 663, 232, 233, 14, 234, 209, 719, 720, 721, 722, 723, 724, 725, 726, 727, 728, 729, 756, 757, 776, 777, 778, 754, 755] (by decide +kernel) (by decide +kernel)
set_option maxRecDepth 20000 in
theorem gL_law_X5_image : GoodIn wsL_law (wsV RL 102 RX5 yX5_image wsX5_image) := goodIn_app (goodIn_of _ (by decide +kernel)) ggL_law_X5_image
set_option maxRecDepth 20000 in
theorem ggL_law_X6_image : GoodIn wsL_law wsX6_image := goodIn_r _ [667, 89, 87, 269, 668, 378, 669, 538, 670, 255, 90, 730, 731, 732, 733, 734, 735, 736, 737, 738, 739, 740, 741, 742, 743, 744, 745, 746, 747, 748, 749, 750, 751, 752, 753] (by decide +kernel) (by decide +kernel)
set_option maxRecDepth 20000 in
theorem gL_law_X6_image : GoodIn wsL_law (wsV RL 105 RX6 yX6_image wsX6_image) := goodIn_app (goodIn_of _ (by decide +kernel)) ggL_law_X6_image
set_option maxRecDepth 20000 in
theorem ggL_law_X5_restore : GoodIn wsL_law wsX5_restore := goodIn_r _ [674, 34, 15, 19, 657, 32, 33, 658, 373, 663, 232, 233, 14, 234, 209, 675, 423, 424, 18, 425, 44, 659, 660, 661, 31, 662, 75, 76, 529, 719, 720, 721, 722, 723, 724, 725, 726, 727, 728, 729, 754, 755, 756, 757, 776, 777, 778] (by decide +kernel) (by decide +kernel)
set_option maxRecDepth 20000 in
theorem gL_law_X5_restore : GoodIn wsL_law (wsV RL 106 RX5 yX5_restore wsX5_restore) := goodIn_app (goodIn_of _ (by decide +kernel)) ggL_law_X5_restore
set_option maxRecDepth 20000 in
theorem ggL_law_X6_restore : GoodIn wsL_law wsX6_restore := goodIn_r _ [679, 90, 668, 269, 87, 89, 669, 378, 670, 538, 255, 730, 731, 732, 733, 734, 735, 736, 737, 738, 739, 740, 741, 742, 743, 744, 745, 746, 747, 748, 749, 750, 751, 752, 753] (by decide +kernel) (by decide +kernel)
set_option maxRecDepth 20000 in
theorem gL_law_X6_restore : GoodIn wsL_law (wsV RL 109 RX6 yX6_restore wsX6_restore) := goodIn_app (goodIn_of _ (by decide +kernel)) ggL_law_X6_restore
set_option maxRecDepth 20000 in
theorem ggL_law_X5_count : GoodIn wsL_law wsX5_count := goodIn_r _ [683, 15, 19, 373, 32, 28, 663, 232, 233, 14, 234, 209, 684, 685, 686, 18, 687, 45, 231, 181, 182, 183, 184, 44, 530, 531, 532, 31, 533, 529, 100, 101, 102, 27, 103, 99, 619, 620, 621, 622, 623, 194, 195, 196, 197, 198, 199, 200, 201, 2, 202, 203, 204, 205, 206, 207, 208, 210, 211, 212, 213, 214, 215, 216, 217, 218, 219, 220, 221, 222, 223, 224, 225, 39, 226, 227, 228, 229, 230, 235, 236, 237, 238, 239, 240, 241, 242, 719, 720, 721, 722, 723, 724, 725, 726, 727, 728, 729, 754, 755, 756, 757, 776, 777, 778, 769, 770, 771, 772, 773, 774, 775] (by decide +kernel) (by decide +kernel)
set_option maxRecDepth 20000 in
theorem gL_law_X5_count : GoodIn wsL_law (wsV RL 110 RX5 yX5_count wsX5_count) := goodIn_app (goodIn_of _ (by decide +kernel)) ggL_law_X5_count
set_option maxRecDepth 20000 in
theorem ggL_law_X6_count : GoodIn wsL_law wsX6_count := goodIn_r _ [691, 692, 693, 694, 5, 695, 269, 255, 378, 538, 109, 282, 283, 284, 285, 286, 287, 641, 642, 643, 644, 256, 257, 258, 259, 260, 261, 262, 263, 264, 110, 111, 112, 265, 266, 267, 268, 270, 271, 272, 273, 83, 274, 275, 276, 277, 278, 279, 280, 281, 288, 289, 290, 291, 292, 293, 294, 730, 731, 732, 733, 734, 735, 736, 737, 738, 739, 740, 741, 742, 743, 744, 745, 746, 747, 748, 749, 750, 751, 752, 753] (by decide +kernel) (by decide +kernel)
set_option maxRecDepth 20000 in
theorem gL_law_X6_count : GoodIn wsL_law (wsV RL 113 RX6 yX6_count wsX6_count) := goodIn_app (goodIn_of _ (by decide +kernel)) ggL_law_X6_count
set_option maxRecDepth 20000 in
theorem ggL_law_X5_digest : GoodIn wsL_law wsX5_digest := goodIn_r _ [699, 24, 19, 700, 15, 701, 32, 28, 403, 404, 405, 23, 406, 60, 62, 61, 58, 407, 54, 408, 384, 385, 18, 386, 44, 409, 232, 233, 14, 234, 209, 410, 411, 412, 413, 55, 56, 414, 415, 416, 417, 64, 65, 418, 419, 420, 421, 422, 423, 424, 425, 426, 427, 428, 429, 430, 431, 432, 433, 434, 194, 195, 196, 45, 197, 198, 199, 200, 201, 2, 202, 203, 204, 205, 206, 207, 208, 210, 211, 212, 213, 214, 215, 216, 181, 182, 183, 184, 217, 218, 219, 220, 221, 222, 223, 224, 225, 39, 226, 227, 228, 229, 230, 231, 235, 236, 237, 238, 239, 240, 241, 242, 435, 178, 179, 180, 436, 244, 245, 246, 247, 248, 249, 250, 663, 702, 314, 315, 316, 317, 318, 319, 320, 321, 322, 323, 324, 325, 326, 327, 328, 329, 330, 331, 332, 480, 481, 482, 483, 484, 485, 486, 487, 488, 703, 400, 401, 402, 437, 438, 439, 440, 441, 442, 443, 444, 383, 501, 502, 503, 504, 555, 556, 557, 558, 559, 560, 561, 31, 562, 529, 75, 76, 563, 592, 593, 594, 595, 596, 597, 598, 599, 59, 600, 47, 48, 49, 601, 445, 446, 100, 101, 102, 27, 103, 99, 704, 705, 706, 707, 70, 708, 681, 682, 683, 373, 684, 685, 686, 687, 530, 531, 532, 533, 619, 620, 621, 622, 623, 719, 720, 721, 722, 723, 724, 725, 726, 727, 728, 729, 758, 759, 760, 761, 762, 763, 764, 765, 766, 767, 768, 756, 757, 754, 755, 776, 777, 778, 769, 770, 771, 772, 773, 774, 775] (by decide +kernel) (by decide +kernel)
set_option maxRecDepth 20000 in
theorem gL_law_X5_digest : GoodIn wsL_law (wsV RL 114 RX5 yX5_digest wsX5_digest) := goodIn_app (goodIn_of _ (by decide +kernel)) ggL_law_X5_digest
set_option maxRecDepth 20000 in
theorem ggL_law_X6_digest : GoodIn wsL_law wsX6_digest := goodIn_r _ [712, 713, 714, 269, 255, 455, 109, 81, 456, 457, 458, 5, 459, 84, 85, 86, 256, 257, 258, 259, 260, 261, 262, 263, 264, 110, 111, 112, 265, 266, 267, 268, 270, 271, 272, 273, 83, 274, 275, 276, 277, 278, 279, 280, 281, 282, 283, 284, 285, 286, 287, 288, 289, 290, 291, 292, 293, 294, 337, 338, 339, 340, 341, 342, 343, 344, 345, 346, 347, 348, 349, 350, 715, 716, 717, 718, 312, 493, 494, 495, 496, 568, 569, 570, 571, 572, 573, 574, 575, 538, 87, 606, 607, 608, 609, 610, 611, 612, 613, 88, 451, 452, 453, 454, 460, 461, 462, 692, 693, 694, 695, 378, 641, 642, 643, 644, 730, 731, 732, 733, 734, 735, 736, 737, 738, 739, 740, 741, 742, 743, 744, 745, 746, 747, 748, 749, 750, 751, 752, 753] (by decide +kernel) (by decide +kernel)
set_option maxRecDepth 20000 in
theorem gL_law_X6_digest : GoodIn wsL_law (wsV RL 118 RX6 yX6_digest wsX6_digest) := goodIn_app (goodIn_of _ (by decide +kernel)) ggL_law_X6_digest
