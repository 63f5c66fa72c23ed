set_option maxRecDepth 20000 in
theorem ggL_law_X12_may : GoodIn wsL_law wsX12_may := goodIn_r _ [388, 263, 264, 265, 5, 266, 212, 213, 214, 215, 140, 141, 209, 210, 211, 206, 207, 208, 389, 390, 391, 392, 142, 372, 373, 374, 375, 369, 370, 371, 339, 340, 341, 342, 1049, 1050, 1051, 1052, 1053, 1054, 1055, 1056, 1057, 1058, 1059, 1060, 1061, 1062, 1063, 1064, 1065, 1066, 1067, 1068, 1069, 1070, 1071, 1072, 1073, 1074, 1075, 1076, 1077, 1078, 1079, 1080, 1081, 1082, 1083, 1084, 1085, 1086, 1087, 1088, 1089] (by decide +kernel) (by decide +kernel)
set_option maxRecDepth 20000 in
theorem gL_law_X12_may : GoodIn wsL_law (wsV RL 52 RX12 yX12_may wsX12_may) := goodIn_app (goodIn_of _ (by decide +kernel)) ggL_law_X12_may
set_option maxRecDepth 20000 in
theorem ggL_law_X11_mays : GoodIn wsL_law wsX11_mays := goodIn_r _ [396, 15, 347, 348, 349, 20, 350, 84, 177, 178, 179, 180, 78, 181, 182, 134, 183, 351, 352, 353, 354, 77, 83, 82, 240, 70, 71, 44, 72, 61, 241, 242, 243, 244, 67, 69, 245, 246, 247, 248, 249, 250, 251, 252, 253, 254, 380, 381, 382, 383, 228, 221, 222, 223, 68, 229, 230, 231, 232, 80, 236, 237, 238, 239, 233, 234, 235, 384, 1041, 1042, 1043, 1044, 1045, 1046, 1047, 1048, 1090, 1091, 1092, 1093, 1119, 1120, 1121, 1122, 1094, 1095, 1096, 1097, 1098, 1099, 1100] (by decide +kernel) (by decide +kernel)
set_option maxRecDepth 20000 in
theorem gL_law_X11_mays : GoodIn wsL_law (wsV RL 53 RX11 yX11_mays wsX11_mays) := goodIn_app (goodIn_of _ (by decide +kernel)) ggL_law_X11_mays
set_option maxRecDepth 20000 in
theorem ggL_law_X12_mays : GoodIn wsL_law wsX12_mays := goodIn_r _ [400, 372, 373, 374, 5, 375, 142, 141, 369, 370, 371, 212, 213, 214, 215, 140, 209, 210, 211, 339, 340, 341, 342, 389, 390, 391, 392, 1049, 1050, 1051, 1052, 1053, 1054, 1055, 1056, 1057, 1058, 1059, 1060, 1061, 1062, 1063, 1064, 1065, 1066, 1067, 1068, 1069, 1070, 1071, 1072, 1073, 1074, 1075, 1076, 1077, 1078, 1079, 1080, 1081, 1082, 1083, 1084, 1085, 1086, 1087, 1088, 1089] (by decide +kernel) (by decide +kernel)
set_option maxRecDepth 20000 in
theorem gL_law_X12_mays : GoodIn wsL_law (wsV RL 56 RX12 yX12_mays wsX12_mays) := goodIn_app (goodIn_of _ (by decide +kernel)) ggL_law_X12_mays
set_option maxRecDepth 20000 in
theorem ggL_law_X11_ring : GoodIn wsL_law wsX11_ring := goodIn_r _ [404, 15, 220, 221, 222, 44, 223, 68, 405, 406, 407, 408, 67, 409, 410, 411, 412, 66, 69, 70, 71, 72, 61, 252, 253, 134, 254, 245, 246, 247, 413, 414, 415, 416, 417, 418, 419, 420, 421, 422, 423, 424, 425, 426, 427, 428, 429, 430, 431, 432, 1041, 1042, 1043, 1044, 1045, 1046, 1047, 1048, 1090, 1091, 1092, 1093, 1119, 1120, 1121, 1122] (by decide +kernel) (by decide +kernel)
set_option maxRecDepth 20000 in
theorem gL_law_X11_ring : GoodIn wsL_law (wsV RL 57 RX11 yX11_ring wsX11_ring) := goodIn_app (goodIn_of _ (by decide +kernel)) ggL_law_X11_ring
set_option maxRecDepth 20000 in
theorem ggL_law_X12_ring : GoodIn wsL_law wsX12_ring := goodIn_r _ [436, 368, 141, 263, 264, 265, 5, 266, 212, 213, 214, 215, 140, 209, 210, 211, 206, 207, 208, 437, 438, 439, 440, 441, 442, 443, 444, 445, 446, 447, 448, 449, 418, 419, 420, 450, 451, 452, 453, 1049, 1050, 1051, 1052, 1053, 1054, 1055, 1056, 1057, 1058, 1059, 1060, 1061, 1062, 1063, 1064, 1065, 1066, 1067, 1068, 1069, 1070, 1071, 1072, 1073, 1074, 1075, 1076, 1077, 1078, 1079, 1080, 1081, 1082, 1083, 1084, 1085, 1086, 1087, 1088, 1089] (by decide +kernel) (by decide +kernel)
set_option maxRecDepth 20000 in
theorem gL_law_X12_ring : GoodIn wsL_law (wsV RL 60 RX12 yX12_ring wsX12_ring) := goodIn_app (goodIn_of _ (by decide +kernel)) ggL_law_X12_ring
set_option maxRecDepth 20000 in
theorem ggL_law_X11_bound : GoodIn wsL_law wsX11_bound := goodIn_r _ [457, 15, 426, 427, 428, 44, 429, 68, 430, 414, 415, 416, 67, 417, 418, 419, 420, 409, 410, 411, 412, 66, 69, 70, 71, 72, 61, 252, 253, 134, 254, 245, 246, 247, 431, 422, 423, 424, 425, 406, 407, 408, 458, 459, 460, 461, 1041, 1042, 1043, 1044, 1045, 1046, 1047, 1048, 1090, 1091, 1092, 1093, 1119, 1120, 1121, 1122] (by decide +kernel) (by decide +kernel)
set_option maxRecDepth 20000 in
theorem gL_law_X11_bound : GoodIn wsL_law (wsV RL 61 RX11 yX11_bound wsX11_bound) := goodIn_app (goodIn_of _ (by decide +kernel)) ggL_law_X11_bound
set_option maxRecDepth 20000 in
theorem ggL_law_X12_bound : GoodIn wsL_law wsX12_bound := goodIn_r _ [465, 466, 467, 468, 5, 469, 212, 213, 214, 215, 140, 141, 209, 210, 211, 450, 451, 452, 453, 445, 446, 447, 448, 449, 418, 419, 420, 441, 442, 443, 444, 437, 438, 439, 440, 470, 471, 472, 473, 1049, 1050, 1051, 1052, 1053, 1054, 1055, 1056, 1057, 1058, 1059, 1060, 1061, 1062, 1063, 1064, 1065, 1066, 1067, 1068, 1069, 1070, 1071, 1072, 1073, 1074, 1075, 1076, 1077, 1078, 1079, 1080, 1081, 1082, 1083, 1084, 1085, 1086, 1087, 1088, 1089] (by decide +kernel) (by decide +kernel)
set_option maxRecDepth 20000 in
theorem gL_law_X12_bound : GoodIn wsL_law (wsV RL 64 RX12 yX12_bound wsX12_bound) := goodIn_app (goodIn_of _ (by decide +kernel)) ggL_law_X12_bound
set_option maxRecDepth 20000 in
theorem ggL_law_X11_great : GoodIn wsL_law wsX11_great := goodIn_r _ [477, 15, 25, 478, 479, 480, 24, 481, 110, 106, 111, 482, 483, 107, 484, 109, 485, 486, 487, 488, 489, 108, 490, 427, 428, 44, 429, 68, 430, 414, 415, 416, 67, 417, 418, 419, 420, 409, 410, 411, 412, 66, 69, 70, 71, 72, 61, 252, 253, 134, 254, 245, 246, 247, 431, 422, 423, 424, 425, 406, 407, 408, 491, 221, 222, 223, 492, 493, 494, 174, 175, 20, 176, 84, 82, 83, 177, 178, 179, 180, 78, 181, 182, 183, 184, 185, 186, 187, 80, 188, 133, 135, 495, 496, 497, 498, 256, 257, 258, 499, 500, 501, 502, 503, 234, 235, 504, 381, 382, 383, 77, 228, 229, 230, 231, 232, 236, 237, 238, 239, 240, 241, 242, 243, 244, 248, 249, 250, 251, 233, 351, 352, 353, 354, 384, 348, 349, 350, 505, 225, 226, 227, 506, 276, 277, 278, 507, 508, 509, 510, 511, 512, 513, 514, 515, 516, 517, 518, 519, 520, 521, 522, 523, 524, 525, 314, 315, 316, 526, 527, 528, 529, 530, 531, 532, 533, 534, 535, 536, 537, 538, 539, 540, 541, 542, 1041, 1042, 1043, 1044, 1045, 1046, 1047, 1048, 1090, 1091, 1092, 1093, 1119, 1120, 1121, 1122, 1101, 1102, 1103, 1104, 1105, 1106, 1107, 1108, 1109, 1110, 1094, 1095, 1096, 1097, 1098, 1099, 1100] (by decide +kernel) (by decide +kernel)
set_option maxRecDepth 20000 in
theorem gL_law_X11_great : GoodIn wsL_law (wsV RL 65 RX11 yX11_great wsX11_great) := goodIn_app (goodIn_of _ (by decide +kernel)) ggL_law_X11_great
set_option maxRecDepth 20000 in
theorem ggL_law_X12_great : GoodIn wsL_law wsX12_great := goodIn_r _ [546, 547, 144, 142, 548, 549, 550, 551, 552, 553, 212, 213, 214, 5, 215, 140, 141, 209, 210, 211, 466, 467, 468, 469, 450, 451, 452, 453, 445, 446, 447, 448, 449, 418, 419, 420, 441, 442, 443, 444, 437, 438, 439, 440, 206, 207, 208, 554, 555, 556, 557, 558, 559, 560, 561, 151, 562, 563, 564, 565, 566, 567, 568, 569, 570, 571, 572, 573, 152, 574, 575, 576, 577, 149, 578, 579, 580, 581, 321, 322, 323, 324, 582, 434, 435, 436, 368, 263, 264, 265, 266, 470, 471, 472, 473, 372, 373, 374, 375, 369, 370, 371, 339, 340, 341, 342, 1049, 1050, 1051, 1052, 1053, 1054, 1055, 1056, 1057, 1058, 1059, 1060, 1061, 1062, 1063, 1064, 1065, 1066, 1067, 1068, 1069, 1070, 1071, 1072, 1073, 1074, 1075, 1076, 1077, 1078, 1079, 1080, 1081, 1082, 1083, 1084, 1085, 1086, 1087, 1088, 1089] (by decide +kernel) (by decide +kernel)
set_option maxRecDepth 20000 in
theorem gL_law_X12_great : GoodIn wsL_law (wsV RL 68 RX12 yX12_great wsX12_great) := goodIn_app (goodIn_of _ (by decide +kernel)) ggL_law_X12_great
set_option maxRecDepth 20000 in
theorem ggL_law_X11_swapped : GoodIn wsL_law wsX11_swapped := goodIn_r _ [586, 15, 587, 588, 589, 44, 590, 591, 513, 514, 515, 66, 220, 221, 222, 223, 68, 592, 521, 522, 523, 67, 524, 525, 314, 315, 316, 69, 70, 71, 72, 61, 245, 246, 134, 247, 252, 253, 254, 526, 182, 183, 1041, 1042, 1043, 1044, 1045, 1046, 1047, 1048, 1090, 1091, 1092, 1093, 1119, 1120, 1121, 1122] (by decide +kernel) (by decide +kernel)
set_option maxRecDepth 20000 in
theorem gL_law_X11_swapped : GoodIn wsL_law (wsV RL 69 RX11 yX11_swapped wsX11_swapped) := goodIn_app (goodIn_of _ (by decide +kernel)) ggL_law_X11_swapped
set_option maxRecDepth 20000 in
theorem ggL_law_X12_swapped : GoodIn wsL_law wsX12_swapped := goodIn_r _ [596, 597, 598, 599, 5, 600, 566, 567, 568, 569, 140, 206, 207, 208, 263, 264, 265, 266, 212, 213, 214, 215, 141, 209, 210, 211, 574, 575, 576, 577, 149, 578, 579, 580, 581, 321, 322, 323, 324, 1049, 1050, 1051, 1052, 1053, 1054, 1055, 1056, 1057, 1058, 1059, 1060, 1061, 1062, 1063, 1064, 1065, 1066, 1067, 1068, 1069, 1070, 1071, 1072, 1073, 1074, 1075, 1076, 1077, 1078, 1079, 1080, 1081, 1082, 1083, 1084, 1085, 1086, 1087, 1088, 1089] (by decide +kernel) (by decide +kernel)
set_option maxRecDepth 20000 in
theorem gL_law_X12_swapped : GoodIn wsL_law (wsV RL 72 RX12 yX12_swapped wsX12_swapped) := goodIn_app (goodIn_of _ (by decide +kernel)) ggL_law_X12_swapped
set_option maxRecDepth 20000 in
theorem ggL_law_X11_swap : GoodIn wsL_law wsX11_swap := goodIn_r _ [604, 15, 587, 588, 589, 44, 590, 591, 513, 514, 515, 66, 605, 606, 607, 20, 608, 84, 81, 77, 177, 178, 179, 180, 78, 181, 182, 134, 183, 609, 521, 522, 523, 67, 524, 525, 314, 315, 316, 69, 70, 71, 72, 61, 245, 246, 247, 252, 253, 254, 526, 610, 174, 175, 176, 82, 83, 184, 185, 186, 187, 80, 188, 133, 135, 611, 225, 226, 227, 228, 221, 222, 223, 68, 229, 230, 231, 232, 233, 234, 235, 236, 237, 238, 239, 240, 241, 242, 243, 244, 248, 249, 250, 251, 255, 256, 257, 258, 1041, 1042, 1043, 1044, 1045, 1046, 1047, 1048, 1090, 1091, 1092, 1093, 1119, 1120, 1121, 1122, 1094, 1095, 1096, 1097, 1098, 1099, 1100] (by decide +kernel) (by decide +kernel)
set_option maxRecDepth 20000 in
theorem gL_law_X11_swap : GoodIn wsL_law (wsV RL 73 RX11 yX11_swap wsX11_swap) := goodIn_app (goodIn_of _ (by decide +kernel)) ggL_law_X11_swap
set_option maxRecDepth 20000 in
theorem ggL_law_X12_swap : GoodIn wsL_law wsX12_swap := goodIn_r _ [615, 597, 598, 599, 5, 600, 566, 567, 568, 569, 140, 206, 207, 208, 616, 617, 618, 619, 150, 142, 212, 213, 214, 215, 141, 209, 210, 211, 574, 575, 576, 577, 149, 578, 579, 580, 581, 321, 322, 323, 324, 620, 621, 622, 623, 267, 268, 269, 270, 1049, 1050, 1051, 1052, 1053, 1054, 1055, 1056, 1057, 1058, 1059, 1060, 1061, 1062, 1063, 1064, 1065, 1066, 1067, 1068, 1069, 1070, 1071, 1072, 1073, 1074, 1075, 1076, 1077, 1078, 1079, 1080, 1081, 1082, 1083, 1084, 1085, 1086, 1087, 1088, 1089] (by decide +kernel) (by decide +kernel)
set_option maxRecDepth 20000 in
theorem gL_law_X12_swap : GoodIn wsL_law (wsV RL 76 RX12 yX12_swap wsX12_swap) := goodIn_app (goodIn_of _ (by decide +kernel)) ggL_law_X12_swap
set_option maxRecDepth 20000 in
theorem ggL_law_X11_keeps : GoodIn wsL_law wsX11_keeps := goodIn_r _ [627, 15, 628, 513, 514, 44, 515, 66, 629, 630, 631, 20, 632, 84, 77, 177, 178, 179, 180, 78, 181, 182, 134, 183, 609, 521, 522, 523, 67, 524, 525, 314, 315, 316, 69, 70, 71, 72, 61, 245, 246, 247, 252, 253, 254, 526, 229, 230, 231, 232, 80, 1041, 1042, 1043, 1044, 1045, 1046, 1047, 1048, 1090, 1091, 1092, 1093, 1119, 1120, 1121, 1122, 1094, 1095, 1096, 1097, 1098, 1099, 1100] (by decide +kernel) (by decide +kernel)
set_option maxRecDepth 20000 in
theorem gL_law_X11_keeps : GoodIn wsL_law (wsV RL 77 RX11 yX11_keeps wsX11_keeps) := goodIn_app (goodIn_of _ (by decide +kernel)) ggL_law_X11_keeps
set_option maxRecDepth 20000 in
theorem ggL_law_X12_keeps : GoodIn wsL_law wsX12_keeps := goodIn_r _ [636, 150, 142, 566, 567, 568, 5, 569, 140, 616, 617, 618, 619, 212, 213, 214, 215, 141, 209, 210, 211, 574, 575, 576, 577, 149, 578, 579, 580, 581, 321, 322, 323, 324, 1049, 1050, 1051, 1052, 1053, 1054, 1055, 1056, 1057, 1058, 1059, 1060, 1061, 1062, 1063, 1064, 1065, 1066, 1067, 1068, 1069, 1070, 1071, 1072, 1073, 1074, 1075, 1076, 1077, 1078, 1079, 1080, 1081, 1082, 1083, 1084, 1085, 1086, 1087, 1088, 1089] (by decide +kernel) (by decide +kernel)
set_option maxRecDepth 20000 in
theorem gL_law_X12_keeps : GoodIn wsL_law (wsV RL 80 RX12 yX12_keeps wsX12_keeps) := goodIn_app (goodIn_of _ (by decide +kernel)) ggL_law_X12_keeps
set_option maxRecDepth 20000 in
theorem ggL_law_X11_cast : GoodIn wsL_law wsX11_cast := goodIn_r _ [640, 15, 641, 642, 643, 50, 644, 92, 645, 646, 647, 648, 90, 649, 650, 234, 134, 235, 651, 652, 653, 654, 1041, 1042, 1043, 1044, 1045, 1046, 1047, 1048, 1090, 1091, 1092, 1093, 1119, 1120, 1121, 1122, 1123, 1124, 1125, 1126] (by decide +kernel) (by decide +kernel)
set_option maxRecDepth 20000 in
theorem gL_law_X11_cast : GoodIn wsL_law (wsV RL 81 RX11 yX11_cast wsX11_cast) := goodIn_app (goodIn_of _ (by decide +kernel)) ggL_law_X11_cast
set_option maxRecDepth 20000 in
theorem ggL_law_X12_cast : GoodIn wsL_law wsX12_cast := goodIn_r _ [658, 140, 204, 145, 206, 207, 5, 208, 1049, 1050, 1051, 1052, 1053, 1054, 1055, 1056, 1057, 1058, 1059, 1060, 1061, 1062, 1063, 1064, 1065, 1066, 1067, 1068, 1069, 1070, 1071, 1072, 1073, 1074, 1075, 1076, 1077, 1078, 1079, 1080, 1081, 1082, 1083, 1084, 1085, 1086, 1087, 1088, 1089] (by decide +kernel) (by decide +kernel)
set_option maxRecDepth 20000 in
theorem gL_law_X12_cast : GoodIn wsL_law (wsV RL 84 RX12 yX12_cast wsX12_cast) := goodIn_app (goodIn_of _ (by decide +kernel)) ggL_law_X12_cast
set_option maxRecDepth 20000 in
theorem ggL_law_X11_spell : GoodIn wsL_law wsX11_spell := goodIn_r _ [662, 15, 220, 221, 222, 44, 223, 68, 641, 642, 643, 50, 644, 92, 313, 314, 315, 316, 67, 69, 70, 71, 72, 61, 245, 246, 134, 247, 252, 253, 254, 645, 646, 647, 648, 90, 649, 650, 234, 235, 651, 652, 653, 654, 1041, 1042, 1043, 1044, 1045, 1046, 1047, 1048, 1090, 1091, 1092, 1093, 1119, 1120, 1121, 1122, 1123, 1124, 1125, 1126] (by decide +kernel) (by decide +kernel)
set_option maxRecDepth 20000 in
theorem gL_law_X11_spell : GoodIn wsL_law (wsV RL 85 RX11 yX11_spell wsX11_spell) := goodIn_app (goodIn_of _ (by decide +kernel)) ggL_law_X11_spell
set_option maxRecDepth 20000 in
theorem ggL_law_X12_spell : GoodIn wsL_law wsX12_spell := goodIn_r _ [666, 204, 141, 145, 263, 264, 265, 5, 266, 212, 213, 214, 215, 140, 209, 210, 211, 206, 207, 208, 321, 322, 323, 324, 1049, 1050, 1051, 1052, 1053, 1054, 1055, 1056, 1057, 1058, 1059, 1060, 1061, 1062, 1063, 1064, 1065, 1066, 1067, 1068, 1069, 1070, 1071, 1072, 1073, 1074, 1075, 1076, 1077, 1078, 1079, 1080, 1081, 1082, 1083, 1084, 1085, 1086, 1087, 1088, 1089] (by decide +kernel) (by decide +kernel)
set_option maxRecDepth 20000 in
theorem gL_law_X12_spell : GoodIn wsL_law (wsV RL 88 RX12 yX12_spell wsX12_spell) := goodIn_app (goodIn_of _ (by decide +kernel)) ggL_law_X12_spell
