/-! The methods' words among the tables' -/
set_option maxRecDepth 100000 in
theorem gw_0 : GoodIn lw_tbl (x_wl x_i0) := goodIn_r _ [] (by decide +kernel) (by decide +kernel)
set_option maxRecDepth 100000 in
theorem gw_1 : GoodIn lw_tbl (x_wl x_i1) := goodIn_r _ [209] (by decide +kernel) (by decide +kernel)
set_option maxRecDepth 100000 in
theorem gw_2 : GoodIn lw_tbl (x_wl x_i2) := goodIn_r _ [207, 208, 209] (by decide +kernel) (by decide +kernel)
set_option maxRecDepth 100000 in
theorem gw_3 : GoodIn lw_tbl (x_wl x_i3) := goodIn_r _ [209] (by decide +kernel) (by decide +kernel)
set_option maxRecDepth 100000 in
theorem gw_4 : GoodIn lw_tbl (x_wl x_i4) := goodIn_r _ [292, 350, 352, 351, 112, 415, 418, 416, 417, 116, 434, 437, 435, 436, 116, 337, 340, 338, 339, 116] (by decide +kernel) (by decide +kernel)
set_option maxRecDepth 100000 in
theorem gw_5 : GoodIn lw_tbl (x_wl x_i5) := goodIn_r _ [209] (by decide +kernel) (by decide +kernel)
set_option maxRecDepth 100000 in
theorem gw_6 : GoodIn lw_tbl (x_wl x_i6) := goodIn_r _ [207, 208, 209] (by decide +kernel) (by decide +kernel)
set_option maxRecDepth 100000 in
theorem gw_7 : GoodIn lw_tbl (x_wl x_i7) := goodIn_r _ [263, 267] (by decide +kernel) (by decide +kernel)
set_option maxRecDepth 100000 in
theorem gw_8 : GoodIn lw_tbl (x_wl x_i8) := goodIn_r _ [263, 267] (by decide +kernel) (by decide +kernel)
set_option maxRecDepth 100000 in
theorem gw_9 : GoodIn lw_tbl (x_wl x_i9) := goodIn_r _ [264, 265, 269, 469, 472, 471, 3, 119] (by decide +kernel) (by decide +kernel)
set_option maxRecDepth 100000 in
theorem gw_10 : GoodIn lw_tbl (x_wl x_i10) := goodIn_r _ [] (by decide +kernel) (by decide +kernel)
set_option maxRecDepth 100000 in
theorem gw_11 : GoodIn lw_tbl (x_wl x_i11) := goodIn_r _ [269, 478, 481, 480, 5, 119] (by decide +kernel) (by decide +kernel)
set_option maxRecDepth 100000 in
theorem gw_12 : GoodIn lw_tbl (x_wl x_i12) := goodIn_r _ [193] (by decide +kernel) (by decide +kernel)
set_option maxRecDepth 100000 in
theorem gw_13 : GoodIn lw_tbl (x_wl x_i13) := goodIn_r _ [193] (by decide +kernel) (by decide +kernel)
set_option maxRecDepth 100000 in
theorem gw_14 : GoodIn lw_tbl (x_wl x_i14) := goodIn_r _ [223, 224] (by decide +kernel) (by decide +kernel)
set_option maxRecDepth 100000 in
theorem gw_15 : GoodIn lw_tbl (x_wl x_i15) := goodIn_r _ [261, 262, 552, 555, 553, 554, 117, 544, 547, 545, 546, 115, 548, 551, 549, 550, 115] (by decide +kernel) (by decide +kernel)
set_option maxRecDepth 100000 in
theorem gw_16 : GoodIn lw_tbl (x_wl x_i16) := goodIn_r _ [263, 264, 265, 266] (by decide +kernel) (by decide +kernel)
set_option maxRecDepth 100000 in
theorem gw_17 : GoodIn lw_tbl (x_wl x_i17) := goodIn_r _ [193] (by decide +kernel) (by decide +kernel)
set_option maxRecDepth 100000 in
theorem gw_18 : GoodIn lw_tbl (x_wl x_i18) := goodIn_r _ [572, 575, 574, 11, 115] (by decide +kernel) (by decide +kernel)
set_option maxRecDepth 100000 in
theorem gw_19 : GoodIn lw_tbl (x_wl x_i19) := goodIn_r _ [261, 266, 564, 567, 566, 10, 119, 568, 571, 569, 570, 115] (by decide +kernel) (by decide +kernel)
set_option maxRecDepth 100000 in
theorem gw_20 : GoodIn lw_tbl (x_wl x_i20) := goodIn_r _ [193] (by decide +kernel) (by decide +kernel)
set_option maxRecDepth 100000 in
theorem gw_21 : GoodIn lw_tbl (x_wl x_i21) := goodIn_r _ [] (by decide +kernel) (by decide +kernel)
set_option maxRecDepth 100000 in
theorem gw_22 : GoodIn lw_tbl (x_wl x_i22) := goodIn_r _ [261, 262, 552, 555, 553, 554, 117, 548, 551, 549, 550, 115] (by decide +kernel) (by decide +kernel)
set_option maxRecDepth 100000 in
theorem gw_23 : GoodIn lw_tbl (x_wl x_i23) := goodIn_r _ [261, 548, 551, 549, 550, 115, 560, 563, 562, 9, 119, 576, 579, 577, 578, 115, 580, 582, 581, 115, 583, 586, 585, 12, 119] (by decide +kernel) (by decide +kernel)
set_option maxRecDepth 100000 in
theorem gw_24 : GoodIn lw_tbl (x_wl x_i24) := goodIn_r _ [193] (by decide +kernel) (by decide +kernel)
set_option maxRecDepth 100000 in
theorem gw_25 : GoodIn lw_tbl (x_wl x_i25) := goodIn_r _ [595, 598, 596, 597, 115] (by decide +kernel) (by decide +kernel)
set_option maxRecDepth 100000 in
theorem gw_26 : GoodIn lw_tbl (x_wl x_i26) := goodIn_r _ [572, 575, 574, 11, 115, 591, 594, 592, 593, 115] (by decide +kernel) (by decide +kernel)
set_option maxRecDepth 100000 in
theorem gw_27 : GoodIn lw_tbl (x_wl x_i27) := goodIn_r _ [595, 598, 596, 597, 115] (by decide +kernel) (by decide +kernel)
set_option maxRecDepth 100000 in
theorem gw_28 : GoodIn lw_tbl (x_wl x_i28) := goodIn_r _ [261, 266, 564, 567, 566, 10, 119, 560, 563, 562, 9, 119, 603, 606, 604, 605, 115] (by decide +kernel) (by decide +kernel)
set_option maxRecDepth 100000 in
theorem gw_29 : GoodIn lw_tbl (x_wl x_i29) := goodIn_r _ [595, 598, 596, 597, 115, 616, 547, 545, 546, 115, 617, 606, 604, 605, 115] (by decide +kernel) (by decide +kernel)
set_option maxRecDepth 100000 in
theorem gw_30 : GoodIn lw_tbl (x_wl x_i30) := goodIn_r _ [194] (by decide +kernel) (by decide +kernel)
set_option maxRecDepth 100000 in
theorem gw_31 : GoodIn lw_tbl (x_wl x_i31) := goodIn_r _ [194, 616, 547, 545, 546, 115, 626, 579, 577, 578, 115, 627, 551, 549, 550, 115, 628, 631, 629, 630, 115] (by decide +kernel) (by decide +kernel)
set_option maxRecDepth 100000 in
theorem gw_32 : GoodIn lw_tbl (x_wl x_i32) := goodIn_r _ [194] (by decide +kernel) (by decide +kernel)
set_option maxRecDepth 100000 in
theorem gw_33 : GoodIn lw_tbl (x_wl x_i33) := goodIn_r _ [145] (by decide +kernel) (by decide +kernel)
set_option maxRecDepth 100000 in
theorem gw_34 : GoodIn lw_tbl (x_wl x_i34) := goodIn_r _ [595, 598, 596, 597, 115, 640, 643, 641, 642, 113] (by decide +kernel) (by decide +kernel)
set_option maxRecDepth 100000 in
theorem gw_35 : GoodIn lw_tbl (x_wl x_i35) := goodIn_r _ [260, 261, 622, 625, 623, 624, 115, 632, 635, 633, 634, 115, 636, 639, 637, 638, 115, 644, 598, 596, 597, 115] (by decide +kernel) (by decide +kernel)
set_option maxRecDepth 100000 in
theorem gw_36 : GoodIn lw_tbl (x_wl x_i36) := goodIn_r _ [261, 263, 264, 265, 266, 560, 563, 562, 9, 119, 611, 594, 592, 593, 115, 612, 615, 613, 614, 115, 618, 621, 620, 15, 119] (by decide +kernel) (by decide +kernel)
set_option maxRecDepth 100000 in
theorem gw_37 : GoodIn lw_tbl (x_wl x_i37) := goodIn_r _ [145] (by decide +kernel) (by decide +kernel)
set_option maxRecDepth 100000 in
theorem gw_38 : GoodIn lw_tbl (x_wl x_i38) := goodIn_r _ [627, 551, 549, 550, 115, 653, 656, 654, 655, 113] (by decide +kernel) (by decide +kernel)
set_option maxRecDepth 100000 in
theorem gw_39 : GoodIn lw_tbl (x_wl x_i39) := goodIn_r _ [260, 261, 548, 551, 549, 550, 115, 560, 563, 562, 9, 119, 576, 579, 577, 578, 115, 580, 582, 581, 115, 649, 652, 650, 651, 115] (by decide +kernel) (by decide +kernel)
set_option maxRecDepth 100000 in
theorem gw_40 : GoodIn lw_tbl (x_wl x_i40) := goodIn_r _ [261, 266, 540, 543, 542, 7, 119, 556, 559, 558, 8, 119, 564, 567, 566, 10, 119, 587, 590, 588, 589, 115, 599, 602, 601, 13, 119, 607, 610, 609, 14, 119, 645, 648, 647, 16, 119] (by decide +kernel) (by decide +kernel)
set_option maxRecDepth 100000 in
theorem gw_41 : GoodIn lw_tbl (x_wl x_i41) := goodIn_r _ [262, 267, 269, 465, 468, 467, 2, 119, 473, 476, 475, 4, 119, 534, 536, 539, 538, 6, 119, 552, 555, 553, 554, 117] (by decide +kernel) (by decide +kernel)
set_option maxRecDepth 100000 in
theorem gw_42 : GoodIn lw_tbl (x_wl x_i42) := goodIn_r _ [163, 164, 165, 166, 167] (by decide +kernel) (by decide +kernel)
set_option maxRecDepth 100000 in
theorem gw_43 : GoodIn lw_tbl (x_wl x_i43) := goodIn_r _ [145] (by decide +kernel) (by decide +kernel)
set_option maxRecDepth 100000 in
theorem gw_44 : GoodIn lw_tbl (x_wl x_i44) := goodIn_r _ [156, 159, 669, 670, 673, 671, 672, 113] (by decide +kernel) (by decide +kernel)
set_option maxRecDepth 100000 in
theorem gw_45 : GoodIn lw_tbl (x_wl x_i45) := goodIn_r _ [157, 661, 664, 663, 17, 114, 159, 665, 668, 667, 18, 114, 161] (by decide +kernel) (by decide +kernel)
set_option maxRecDepth 100000 in
theorem gw_46 : GoodIn lw_tbl (x_wl x_i46) := goodIn_r _ [290, 292, 294, 295, 296, 241, 449, 452, 450, 451, 116, 453, 456, 454, 455, 116, 457, 460, 458, 459, 119, 461, 464, 462, 463, 119, 657, 660, 658, 659, 114] (by decide +kernel) (by decide +kernel)
set_option maxRecDepth 100000 in
theorem gw_47 : GoodIn lw_tbl (x_wl x_i47) := goodIn_r _ [156, 161, 669, 686, 643, 641, 642, 113] (by decide +kernel) (by decide +kernel)
set_option maxRecDepth 100000 in
theorem gw_48 : GoodIn lw_tbl (x_wl x_i48) := goodIn_r _ [682, 685, 684, 20, 114] (by decide +kernel) (by decide +kernel)
set_option maxRecDepth 100000 in
theorem gw_49 : GoodIn lw_tbl (x_wl x_i49) := goodIn_r _ [157, 159, 669] (by decide +kernel) (by decide +kernel)
set_option maxRecDepth 100000 in
theorem gw_50 : GoodIn lw_tbl (x_wl x_i50) := goodIn_r _ [157, 159] (by decide +kernel) (by decide +kernel)
set_option maxRecDepth 100000 in
theorem gw_51 : GoodIn lw_tbl (x_wl x_i51) := goodIn_r _ [167, 699, 702, 700, 701, 114, 695, 698, 697, 23, 114] (by decide +kernel) (by decide +kernel)
set_option maxRecDepth 100000 in
theorem gw_52 : GoodIn lw_tbl (x_wl x_i52) := goodIn_r _ [145] (by decide +kernel) (by decide +kernel)
set_option maxRecDepth 100000 in
theorem gw_53 : GoodIn lw_tbl (x_wl x_i53) := goodIn_r _ [156, 157, 712, 715, 713, 714, 113, 670, 673, 671, 672, 113, 699, 702, 700, 701, 114, 686, 643, 641, 642, 113, 711, 656, 654, 655, 113, 691, 694, 693, 22, 114, 695, 698, 697, 23, 114] (by decide +kernel) (by decide +kernel)
set_option maxRecDepth 100000 in
theorem gw_54 : GoodIn lw_tbl (x_wl x_i54) := goodIn_r _ [156, 157, 699, 702, 700, 701, 114, 686, 643, 641, 642, 113] (by decide +kernel) (by decide +kernel)
set_option maxRecDepth 100000 in
theorem gw_55 : GoodIn lw_tbl (x_wl x_i55) := goodIn_r _ [156, 157, 699, 702, 700, 701, 114, 711, 656, 654, 655, 113] (by decide +kernel) (by decide +kernel)
set_option maxRecDepth 100000 in
theorem gw_56 : GoodIn lw_tbl (x_wl x_i56) := goodIn_r _ [735, 736, 737] (by decide +kernel) (by decide +kernel)
set_option maxRecDepth 100000 in
theorem gw_57 : GoodIn lw_tbl (x_wl x_i57) := goodIn_r _ [163, 164, 166, 732, 734, 733, 130] (by decide +kernel) (by decide +kernel)
set_option maxRecDepth 100000 in
theorem gw_58 : GoodIn lw_tbl (x_wl x_i58) := goodIn_r _ [720, 723, 722, 27, 114, 724, 727, 726, 28, 114, 165, 728, 731, 730, 29, 114] (by decide +kernel) (by decide +kernel)
set_option maxRecDepth 100000 in
theorem gw_59 : GoodIn lw_tbl (x_wl x_i59) := goodIn_r _ [720, 723, 722, 27, 114, 724, 727, 726, 28, 114, 165, 728, 731, 730, 29, 114] (by decide +kernel) (by decide +kernel)
set_option maxRecDepth 100000 in
theorem gw_60 : GoodIn lw_tbl (x_wl x_i60) := goodIn_r _ [157, 167] (by decide +kernel) (by decide +kernel)
set_option maxRecDepth 100000 in
theorem gw_61 : GoodIn lw_tbl (x_wl x_i61) := goodIn_r _ [157, 167] (by decide +kernel) (by decide +kernel)
set_option maxRecDepth 100000 in
theorem gw_62 : GoodIn lw_tbl (x_wl x_i62) := goodIn_r _ [157, 165, 167, 728, 731, 730, 29, 114] (by decide +kernel) (by decide +kernel)
set_option maxRecDepth 100000 in
theorem gw_63 : GoodIn lw_tbl (x_wl x_i63) := goodIn_r _ [157, 167, 746, 749, 748, 32, 114, 750, 753, 752, 33, 114, 754, 757, 756, 34, 114] (by decide +kernel) (by decide +kernel)
set_option maxRecDepth 100000 in
theorem gw_64 : GoodIn lw_tbl (x_wl x_i64) := goodIn_r _ [682, 685, 684, 20, 114, 724, 727, 726, 28, 114, 699, 702, 700, 701, 114, 691, 694, 693, 22, 114, 695, 698, 697, 23, 114, 703, 706, 705, 24, 114, 707, 710, 709, 25, 114, 716, 719, 718, 26, 114, 738, 741, 740, 30, 114, 742, 745, 744, 31, 114] (by decide +kernel) (by decide +kernel)
set_option maxRecDepth 100000 in
theorem gw_65 : GoodIn lw_tbl (x_wl x_i65) := goodIn_r _ [157, 165, 167, 728, 731, 730, 29, 114] (by decide +kernel) (by decide +kernel)
set_option maxRecDepth 100000 in
theorem gw_66 : GoodIn lw_tbl (x_wl x_i66) := goodIn_r _ [167, 762, 765, 764, 36, 114] (by decide +kernel) (by decide +kernel)
set_option maxRecDepth 100000 in
theorem gw_67 : GoodIn lw_tbl (x_wl x_i67) := goodIn_r _ [157, 167, 728, 731, 730, 29, 114] (by decide +kernel) (by decide +kernel)
set_option maxRecDepth 100000 in
theorem gw_68 : GoodIn lw_tbl (x_wl x_i68) := goodIn_r _ [157, 165, 167, 762, 765, 764, 36, 114, 766, 769, 768, 37, 114, 770, 773, 772, 38, 114] (by decide +kernel) (by decide +kernel)
set_option maxRecDepth 100000 in
theorem gw_69 : GoodIn lw_tbl (x_wl x_i69) := goodIn_r _ [163, 164, 166, 167] (by decide +kernel) (by decide +kernel)
set_option maxRecDepth 100000 in
theorem gw_70 : GoodIn lw_tbl (x_wl x_i70) := goodIn_r _ [156, 159, 712, 715, 713, 714, 113, 669] (by decide +kernel) (by decide +kernel)
set_option maxRecDepth 100000 in
theorem gw_71 : GoodIn lw_tbl (x_wl x_i71) := goodIn_r _ [157, 661, 664, 663, 17, 114, 159, 161, 699, 702, 700, 701, 114, 695, 698, 697, 23, 114, 782, 785, 783, 784, 114] (by decide +kernel) (by decide +kernel)
set_option maxRecDepth 100000 in
theorem gw_72 : GoodIn lw_tbl (x_wl x_i72) := goodIn_r _ [161] (by decide +kernel) (by decide +kernel)
set_option maxRecDepth 100000 in
theorem gw_73 : GoodIn lw_tbl (x_wl x_i73) := goodIn_r _ [156, 159, 682, 685, 684, 20, 114, 712, 715, 713, 714, 113, 670, 673, 671, 672, 113, 699, 702, 700, 701, 114, 691, 694, 693, 22, 114, 695, 698, 697, 23, 114, 790, 793, 792, 42, 114] (by decide +kernel) (by decide +kernel)
set_option maxRecDepth 100000 in
theorem gw_74 : GoodIn lw_tbl (x_wl x_i74) := goodIn_r _ [665, 668, 667, 18, 114, 161] (by decide +kernel) (by decide +kernel)
set_option maxRecDepth 100000 in
theorem gw_75 : GoodIn lw_tbl (x_wl x_i75) := goodIn_r _ [163, 164, 165, 166, 167] (by decide +kernel) (by decide +kernel)
set_option maxRecDepth 100000 in
theorem gw_76 : GoodIn lw_tbl (x_wl x_i76) := goodIn_r _ [157, 665, 668, 667, 18, 114, 699, 702, 700, 701, 114, 691, 694, 693, 22, 114, 798, 801, 800, 44, 114, 806, 332, 330, 331, 114] (by decide +kernel) (by decide +kernel)
set_option maxRecDepth 100000 in
theorem gw_77 : GoodIn lw_tbl (x_wl x_i77) := goodIn_r _ [161, 691, 694, 693, 22, 114, 778, 781, 780, 40, 114, 782, 785, 783, 784, 114, 786, 789, 788, 41, 114, 790, 793, 792, 42, 114, 794, 797, 796, 43, 114, 798, 801, 800, 44, 114, 802, 805, 804, 45, 114] (by decide +kernel) (by decide +kernel)
set_option maxRecDepth 100000 in
theorem gw_78 : GoodIn lw_tbl (x_wl x_i78) := goodIn_r _ [682, 685, 684, 20, 114, 687, 690, 689, 21, 114, 720, 723, 722, 27, 114, 724, 727, 726, 28, 114, 758, 761, 760, 35, 114, 774, 777, 776, 39, 114] (by decide +kernel) (by decide +kernel)
set_option maxRecDepth 100000 in
theorem gw_79 : GoodIn lw_tbl (x_wl x_i79) := goodIn_r _ [237, 239, 820, 643, 641, 642, 113] (by decide +kernel) (by decide +kernel)
set_option maxRecDepth 100000 in
theorem gw_80 : GoodIn lw_tbl (x_wl x_i80) := goodIn_r _ [572, 575, 574, 11, 115] (by decide +kernel) (by decide +kernel)
set_option maxRecDepth 100000 in
theorem gw_81 : GoodIn lw_tbl (x_wl x_i81) := goodIn_r _ [237, 238, 239, 825, 828, 826, 827, 115, 829, 551, 549, 550, 115, 830, 656, 654, 655, 113] (by decide +kernel) (by decide +kernel)
set_option maxRecDepth 100000 in
theorem gw_82 : GoodIn lw_tbl (x_wl x_i82) := goodIn_r _ [237, 238, 239, 820, 643, 641, 642, 113, 835, 571, 569, 570, 115, 836, 598, 596, 597, 115] (by decide +kernel) (by decide +kernel)
set_option maxRecDepth 100000 in
theorem gw_83 : GoodIn lw_tbl (x_wl x_i83) := goodIn_r _ [237, 238, 239, 240, 242, 825, 828, 826, 827, 115, 841, 652, 650, 651, 115] (by decide +kernel) (by decide +kernel)
set_option maxRecDepth 100000 in
theorem gw_84 : GoodIn lw_tbl (x_wl x_i84) := goodIn_r _ [237, 820, 643, 641, 642, 113, 851, 582, 581, 115] (by decide +kernel) (by decide +kernel)
set_option maxRecDepth 100000 in
theorem gw_85 : GoodIn lw_tbl (x_wl x_i85) := goodIn_r _ [237, 238, 240, 820, 643, 641, 642, 113, 830, 656, 654, 655, 113, 841, 652, 650, 651, 115, 847, 850, 849, 52, 118] (by decide +kernel) (by decide +kernel)
set_option maxRecDepth 100000 in
theorem gw_86 : GoodIn lw_tbl (x_wl x_i86) := goodIn_r _ [237, 238, 820, 643, 641, 642, 113, 860, 625, 623, 624, 115, 861, 631, 629, 630, 115, 862, 635, 633, 634, 115] (by decide +kernel) (by decide +kernel)
set_option maxRecDepth 100000 in
theorem gw_87 : GoodIn lw_tbl (x_wl x_i87) := goodIn_r _ [237, 238, 240, 820, 643, 641, 642, 113, 830, 656, 654, 655, 113, 847, 850, 849, 52, 118, 856, 859, 858, 54, 118, 863, 639, 637, 638, 115] (by decide +kernel) (by decide +kernel)
set_option maxRecDepth 100000 in
theorem gw_88 : GoodIn lw_tbl (x_wl x_i88) := goodIn_r _ [237, 238, 239, 830, 656, 654, 655, 113, 868, 615, 613, 614, 115] (by decide +kernel) (by decide +kernel)
set_option maxRecDepth 100000 in
theorem gw_89 : GoodIn lw_tbl (x_wl x_i89) := goodIn_r _ [238, 239, 816, 819, 818, 47, 118, 835, 571, 569, 570, 115, 873, 606, 604, 605, 115] (by decide +kernel) (by decide +kernel)
set_option maxRecDepth 100000 in
theorem gw_90 : GoodIn lw_tbl (x_wl x_i90) := goodIn_r _ [238, 239, 242, 816, 819, 818, 47, 118, 821, 824, 823, 48, 118, 831, 834, 833, 49, 118, 837, 840, 839, 50, 118, 842, 590, 588, 589, 115, 843, 846, 845, 51, 118, 852, 855, 854, 53, 118, 864, 867, 866, 55, 118, 869, 872, 871, 56, 118] (by decide +kernel) (by decide +kernel)
set_option maxRecDepth 100000 in
theorem gw_91 : GoodIn lw_tbl (x_wl x_i91) := goodIn_r _ [289, 293, 883, 643, 641, 642, 113, 878, 555, 553, 554, 117] (by decide +kernel) (by decide +kernel)
set_option maxRecDepth 100000 in
theorem gw_92 : GoodIn lw_tbl (x_wl x_i92) := goodIn_r _ [292, 293, 294, 241, 449, 452, 450, 451, 116, 453, 456, 454, 455, 116, 878, 555, 553, 554, 117, 879, 882, 881, 58, 112] (by decide +kernel) (by decide +kernel)
set_option maxRecDepth 100000 in
theorem gw_93 : GoodIn lw_tbl (x_wl x_i93) := goodIn_r _ [290, 294, 296, 162, 158, 811, 702, 700, 701, 114, 812, 815, 813, 814, 118, 874, 877, 876, 57, 112, 884, 785, 783, 784, 114] (by decide +kernel) (by decide +kernel)
set_option maxRecDepth 100000 in
theorem gw_94 : GoodIn lw_tbl (x_wl x_i94) := goodIn_r _ [290, 292, 296, 162, 158, 449, 452, 450, 451, 116, 678, 681, 679, 680, 114, 807, 810, 809, 46, 112] (by decide +kernel) (by decide +kernel)
set_option maxRecDepth 100000 in
theorem gw_95 : GoodIn lw_tbl (x_wl x_i95) := goodIn_r _ [296, 297, 445, 448, 447, 1, 112, 674, 677, 676, 19, 112] (by decide +kernel) (by decide +kernel)
set_option maxRecDepth 100000 in
theorem gw_96 : GoodIn lw_tbl (x_wl x_i96) := goodIn_r _ [] (by decide +kernel) (by decide +kernel)
set_option maxRecDepth 100000 in
theorem gw_97 : GoodIn lw_tbl (x_wl x_i97) := goodIn_r _ [289, 350, 352, 351, 112, 893, 895, 894, 112, 896, 656, 654, 655, 113] (by decide +kernel) (by decide +kernel)
set_option maxRecDepth 100000 in
theorem gw_98 : GoodIn lw_tbl (x_wl x_i98) := goodIn_r _ [289, 893, 895, 894, 112, 883, 643, 641, 642, 113] (by decide +kernel) (by decide +kernel)
set_option maxRecDepth 100000 in
theorem gw_99 : GoodIn lw_tbl (x_wl x_i99) := goodIn_r _ [] (by decide +kernel) (by decide +kernel)
set_option maxRecDepth 100000 in
theorem gw_100 : GoodIn lw_tbl (x_wl x_i100) := goodIn_r _ [291, 911, 913, 912, 112, 914, 551, 549, 550, 115] (by decide +kernel) (by decide +kernel)
set_option maxRecDepth 100000 in
theorem gw_101 : GoodIn lw_tbl (x_wl x_i101) := goodIn_r _ [291, 350, 352, 351, 112, 911, 913, 912, 112, 922, 598, 596, 597, 115] (by decide +kernel) (by decide +kernel)
set_option maxRecDepth 100000 in
theorem gw_102 : GoodIn lw_tbl (x_wl x_i102) := goodIn_r _ [223, 224] (by decide +kernel) (by decide +kernel)
set_option maxRecDepth 100000 in
theorem gw_103 : GoodIn lw_tbl (x_wl x_i103) := goodIn_r _ [293, 321, 324, 322, 323, 117] (by decide +kernel) (by decide +kernel)
set_option maxRecDepth 100000 in
theorem gw_104 : GoodIn lw_tbl (x_wl x_i104) := goodIn_r _ [290, 294, 329, 332, 330, 331, 114, 160, 162, 241, 158] (by decide +kernel) (by decide +kernel)
set_option maxRecDepth 100000 in
theorem gw_105 : GoodIn lw_tbl (x_wl x_i105) := goodIn_r _ [292, 293, 295, 296, 297, 337, 340, 338, 339, 116, 225, 268] (by decide +kernel) (by decide +kernel)
set_option maxRecDepth 100000 in
theorem gw_106 : GoodIn lw_tbl (x_wl x_i106) := goodIn_r _ [943, 929, 942] (by decide +kernel) (by decide +kernel)
set_option maxRecDepth 100000 in
theorem gw_107 : GoodIn lw_tbl (x_wl x_i107) := goodIn_r _ [943, 942] (by decide +kernel) (by decide +kernel)
set_option maxRecDepth 100000 in
theorem gw_108 : GoodIn lw_tbl (x_wl x_i108) := goodIn_r _ [945, 944] (by decide +kernel) (by decide +kernel)
set_option maxRecDepth 100000 in
theorem gw_109 : GoodIn lw_tbl (x_wl x_i109) := goodIn_r _ [944, 1028, 1031, 1030, 64, 120] (by decide +kernel) (by decide +kernel)
set_option maxRecDepth 100000 in
theorem gw_110 : GoodIn lw_tbl (x_wl x_i110) := goodIn_r _ [945, 944, 1028, 1031, 1030, 64, 120] (by decide +kernel) (by decide +kernel)
set_option maxRecDepth 100000 in
theorem gw_111 : GoodIn lw_tbl (x_wl x_i111) := goodIn_r _ [1036, 1039, 1038, 66, 120] (by decide +kernel) (by decide +kernel)
set_option maxRecDepth 100000 in
theorem gw_112 : GoodIn lw_tbl (x_wl x_i112) := goodIn_r _ [931] (by decide +kernel) (by decide +kernel)
set_option maxRecDepth 100000 in
theorem gw_113 : GoodIn lw_tbl (x_wl x_i113) := goodIn_r _ [947, 946] (by decide +kernel) (by decide +kernel)
set_option maxRecDepth 100000 in
theorem gw_114 : GoodIn lw_tbl (x_wl x_i114) := goodIn_r _ [931, 1044, 1047, 1046, 68, 120, 1048, 1051, 1050, 69, 120] (by decide +kernel) (by decide +kernel)
set_option maxRecDepth 100000 in
theorem gw_115 : GoodIn lw_tbl (x_wl x_i115) := goodIn_r _ [950, 1036, 1039, 1038, 66, 120] (by decide +kernel) (by decide +kernel)
set_option maxRecDepth 100000 in
theorem gw_116 : GoodIn lw_tbl (x_wl x_i116) := goodIn_r _ [931, 950, 1044, 1047, 1046, 68, 120] (by decide +kernel) (by decide +kernel)
set_option maxRecDepth 100000 in
theorem gw_117 : GoodIn lw_tbl (x_wl x_i117) := goodIn_r _ [931, 1060, 1063, 1062, 72, 120] (by decide +kernel) (by decide +kernel)
set_option maxRecDepth 100000 in
theorem gw_118 : GoodIn lw_tbl (x_wl x_i118) := goodIn_r _ [1044, 1047, 1046, 68, 120] (by decide +kernel) (by decide +kernel)
set_option maxRecDepth 100000 in
theorem gw_119 : GoodIn lw_tbl (x_wl x_i119) := goodIn_r _ [931, 950, 1072, 1075, 1074, 75, 120] (by decide +kernel) (by decide +kernel)
set_option maxRecDepth 100000 in
theorem gw_120 : GoodIn lw_tbl (x_wl x_i120) := goodIn_r _ [] (by decide +kernel) (by decide +kernel)
set_option maxRecDepth 100000 in
theorem gw_121 : GoodIn lw_tbl (x_wl x_i121) := goodIn_r _ [931, 1044, 1047, 1046, 68, 120, 1084, 1086, 1085, 120] (by decide +kernel) (by decide +kernel)
set_option maxRecDepth 100000 in
theorem gw_122 : GoodIn lw_tbl (x_wl x_i122) := goodIn_r _ [930] (by decide +kernel) (by decide +kernel)
set_option maxRecDepth 100000 in
theorem gw_123 : GoodIn lw_tbl (x_wl x_i123) := goodIn_r _ [1087, 1090, 1089, 78, 120, 1084, 1086, 1085, 120, 1080, 1083, 1082, 77, 120] (by decide +kernel) (by decide +kernel)
set_option maxRecDepth 100000 in
theorem gw_124 : GoodIn lw_tbl (x_wl x_i124) := goodIn_r _ [931, 1087, 1090, 1089, 78, 120, 1060, 1063, 1062, 72, 120, 1076, 1079, 1078, 76, 120, 1068, 1071, 1070, 74, 120] (by decide +kernel) (by decide +kernel)
set_option maxRecDepth 100000 in
theorem gw_125 : GoodIn lw_tbl (x_wl x_i125) := goodIn_r _ [] (by decide +kernel) (by decide +kernel)
set_option maxRecDepth 100000 in
theorem gw_126 : GoodIn lw_tbl (x_wl x_i126) := goodIn_r _ [931, 1084, 1086, 1085, 120, 1095, 1097, 1096, 120, 1048, 1051, 1050, 69, 120] (by decide +kernel) (by decide +kernel)
set_option maxRecDepth 100000 in
theorem gw_127 : GoodIn lw_tbl (x_wl x_i127) := goodIn_r _ [930] (by decide +kernel) (by decide +kernel)
set_option maxRecDepth 100000 in
theorem gw_128 : GoodIn lw_tbl (x_wl x_i128) := goodIn_r _ [936, 937, 939, 938, 940] (by decide +kernel) (by decide +kernel)
set_option maxRecDepth 100000 in
theorem gw_129 : GoodIn lw_tbl (x_wl x_i129) := goodIn_r _ [1102, 1105, 1104, 81, 120] (by decide +kernel) (by decide +kernel)
set_option maxRecDepth 100000 in
theorem gw_130 : GoodIn lw_tbl (x_wl x_i130) := goodIn_r _ [933, 1114, 1115, 1118, 1117, 84, 120] (by decide +kernel) (by decide +kernel)
set_option maxRecDepth 100000 in
theorem gw_131 : GoodIn lw_tbl (x_wl x_i131) := goodIn_r _ [931, 932, 935, 941, 1102, 1105, 1104, 81, 120, 933, 934, 1110, 1113, 1112, 83, 120, 1106, 1109, 1108, 82, 120, 1084, 1086, 1085, 120, 1095, 1097, 1096, 120] (by decide +kernel) (by decide +kernel)
set_option maxRecDepth 100000 in
theorem gw_132 : GoodIn lw_tbl (x_wl x_i132) := goodIn_r _ [931, 950, 1060, 1063, 1062, 72, 120, 1056, 1059, 1058, 71, 120, 1036, 1039, 1038, 66, 120, 1024, 1027, 1026, 63, 120, 1032, 1035, 1034, 65, 120, 1040, 1043, 1042, 67, 120, 1052, 1055, 1054, 70, 120, 1064, 1067, 1066, 73, 120, 1091, 1094, 1093, 79, 120, 1098, 1101, 1100, 80, 120] (by decide +kernel) (by decide +kernel)
set_option maxRecDepth 100000 in
theorem gw_133 : GoodIn lw_tbl (x_wl x_i133) := goodIn_r _ [941, 945, 1048, 1051, 1050, 69, 120, 944, 1020, 1023, 1022, 62, 120] (by decide +kernel) (by decide +kernel)
set_option maxRecDepth 100000 in
theorem gw_134 : GoodIn lw_tbl (x_wl x_i134) := goodIn_r _ [932, 933] (by decide +kernel) (by decide +kernel)
set_option maxRecDepth 100000 in
theorem gw_135 : GoodIn lw_tbl (x_wl x_i135) := goodIn_r _ [950, 1087, 1090, 1089, 78, 120] (by decide +kernel) (by decide +kernel)
set_option maxRecDepth 100000 in
theorem gw_136 : GoodIn lw_tbl (x_wl x_i136) := goodIn_r _ [931, 935, 949, 1102, 1105, 1104, 81, 120, 1060, 1063, 1062, 72, 120] (by decide +kernel) (by decide +kernel)
set_option maxRecDepth 100000 in
theorem gw_137 : GoodIn lw_tbl (x_wl x_i137) := goodIn_r _ [931, 935, 1087, 1090, 1089, 78, 120, 1102, 1105, 1104, 81, 120, 1095, 1097, 1096, 120] (by decide +kernel) (by decide +kernel)
set_option maxRecDepth 100000 in
theorem gw_138 : GoodIn lw_tbl (x_wl x_i138) := goodIn_r _ [931, 935, 1087, 1090, 1089, 78, 120, 1102, 1105, 1104, 81, 120, 1095, 1097, 1096, 120, 1076, 1079, 1078, 76, 120] (by decide +kernel) (by decide +kernel)
set_option maxRecDepth 100000 in
theorem gw_139 : GoodIn lw_tbl (x_wl x_i139) := goodIn_r _ [931, 949, 1087, 1090, 1089, 78, 120, 1102, 1105, 1104, 81, 120, 1060, 1063, 1062, 72, 120, 1135, 1138, 1137, 89, 120, 1139, 1142, 1141, 90, 120, 1056, 1059, 1058, 71, 120, 1143, 1146, 1145, 91, 120, 1147, 1150, 1149, 92, 120, 1068, 1071, 1070, 74, 120] (by decide +kernel) (by decide +kernel)
set_option maxRecDepth 100000 in
theorem gw_140 : GoodIn lw_tbl (x_wl x_i140) := goodIn_r _ [932, 935, 1087, 1090, 1089, 78, 120, 942, 1012, 1015, 1014, 60, 120, 1048, 1051, 1050, 69, 120, 1131, 1134, 1133, 88, 120] (by decide +kernel) (by decide +kernel)
set_option maxRecDepth 100000 in
theorem gw_141 : GoodIn lw_tbl (x_wl x_i141) := goodIn_r _ [1087, 1090, 1089, 78, 120] (by decide +kernel) (by decide +kernel)
set_option maxRecDepth 100000 in
theorem gw_142 : GoodIn lw_tbl (x_wl x_i142) := goodIn_r _ [933, 1114, 1155, 1158, 1157, 94, 120] (by decide +kernel) (by decide +kernel)
set_option maxRecDepth 100000 in
theorem gw_143 : GoodIn lw_tbl (x_wl x_i143) := goodIn_r _ [932, 941, 1123, 1126, 1125, 86, 120, 934, 1151, 1154, 1153, 93, 120, 1127, 1130, 1129, 87, 120] (by decide +kernel) (by decide +kernel)
set_option maxRecDepth 100000 in
theorem gw_144 : GoodIn lw_tbl (x_wl x_i144) := goodIn_r _ [932, 933, 1114] (by decide +kernel) (by decide +kernel)
set_option maxRecDepth 100000 in
theorem gw_145 : GoodIn lw_tbl (x_wl x_i145) := goodIn_r _ [932, 1087, 1090, 1089, 78, 120, 1102, 1105, 1104, 81, 120, 1123, 1126, 1125, 86, 120, 1115, 1118, 1117, 84, 120, 1155, 1158, 1157, 94, 120, 1167, 1170, 1169, 97, 120, 934] (by decide +kernel) (by decide +kernel)
set_option maxRecDepth 100000 in
theorem gw_146 : GoodIn lw_tbl (x_wl x_i146) := goodIn_r _ [932, 1087, 1090, 1089, 78, 120, 1123, 1126, 1125, 86, 120] (by decide +kernel) (by decide +kernel)
set_option maxRecDepth 100000 in
theorem gw_147 : GoodIn lw_tbl (x_wl x_i147) := goodIn_r _ [932, 1102, 1105, 1104, 81, 120, 1123, 1126, 1125, 86, 120] (by decide +kernel) (by decide +kernel)
set_option maxRecDepth 100000 in
theorem gw_148 : GoodIn lw_tbl (x_wl x_i148) := goodIn_r _ [936, 937, 938] (by decide +kernel) (by decide +kernel)
set_option maxRecDepth 100000 in
theorem gw_149 : GoodIn lw_tbl (x_wl x_i149) := goodIn_r _ [932, 939, 940] (by decide +kernel) (by decide +kernel)
set_option maxRecDepth 100000 in
theorem gw_150 : GoodIn lw_tbl (x_wl x_i150) := goodIn_r _ [932, 939, 940, 1195, 1198, 1197, 104, 120, 1183, 1186, 1185, 101, 120] (by decide +kernel) (by decide +kernel)
set_option maxRecDepth 100000 in
theorem gw_151 : GoodIn lw_tbl (x_wl x_i151) := goodIn_r _ [932, 940, 1191, 1194, 1193, 103, 120] (by decide +kernel) (by decide +kernel)
set_option maxRecDepth 100000 in
theorem gw_152 : GoodIn lw_tbl (x_wl x_i152) := goodIn_r _ [1087, 1090, 1089, 78, 120, 1114, 1123, 1126, 1125, 86, 120, 1155, 1158, 1157, 94, 120, 939, 940, 1183, 1186, 1185, 101, 120, 1167, 1170, 1169, 97, 120, 934, 1171, 1174, 1173, 98, 120, 1175, 1178, 1177, 99, 120, 1179, 1182, 1181, 100, 120, 1187, 1190, 1189, 102, 120] (by decide +kernel) (by decide +kernel)
set_option maxRecDepth 100000 in
theorem gw_153 : GoodIn lw_tbl (x_wl x_i153) := goodIn_r _ [932, 939, 940, 1195, 1198, 1197, 104, 120, 1183, 1186, 1185, 101, 120] (by decide +kernel) (by decide +kernel)
set_option maxRecDepth 100000 in
theorem gw_154 : GoodIn lw_tbl (x_wl x_i154) := goodIn_r _ [936, 937, 938, 940] (by decide +kernel) (by decide +kernel)
set_option maxRecDepth 100000 in
theorem gw_155 : GoodIn lw_tbl (x_wl x_i155) := goodIn_r _ [936, 937, 939, 938, 940] (by decide +kernel) (by decide +kernel)
set_option maxRecDepth 100000 in
theorem gw_156 : GoodIn lw_tbl (x_wl x_i156) := goodIn_r _ [932, 933, 1114, 1123, 1126, 1125, 86, 120, 1167, 1170, 1169, 97, 120, 934, 1215, 1218, 1217, 109, 120, 1110, 1113, 1112, 83, 120, 1151, 1154, 1153, 93, 120, 1106, 1109, 1108, 82, 120] (by decide +kernel) (by decide +kernel)
set_option maxRecDepth 100000 in
theorem gw_157 : GoodIn lw_tbl (x_wl x_i157) := goodIn_r _ [933, 1123, 1126, 1125, 86, 120, 1115, 1118, 1117, 84, 120, 1155, 1158, 1157, 94, 120, 1167, 1170, 1169, 97, 120] (by decide +kernel) (by decide +kernel)
set_option maxRecDepth 100000 in
theorem gw_158 : GoodIn lw_tbl (x_wl x_i158) := goodIn_r _ [1087, 1090, 1089, 78, 120, 1114, 1155, 1158, 1157, 94, 120, 934, 1110, 1113, 1112, 83, 120, 1151, 1154, 1153, 93, 120, 1207, 1210, 1209, 107, 120, 1211, 1214, 1213, 108, 120, 1219, 1222, 1221, 110, 120, 1199, 1202, 1201, 105, 120] (by decide +kernel) (by decide +kernel)
set_option maxRecDepth 100000 in
theorem gw_159 : GoodIn lw_tbl (x_wl x_i159) := goodIn_r _ [941, 1087, 1090, 1089, 78, 120, 1114, 934, 1175, 1178, 1177, 99, 120, 1179, 1182, 1181, 100, 120, 1199, 1202, 1201, 105, 120, 1163, 1166, 1165, 96, 120, 1203, 1206, 1205, 106, 120] (by decide +kernel) (by decide +kernel)
set_option maxRecDepth 100000 in
theorem gw_160 : GoodIn lw_tbl (x_wl x_i160) := goodIn_r _ [941, 934, 942, 1012, 1015, 1014, 60, 120, 1016, 1019, 1018, 61, 120, 1119, 1122, 1121, 85, 120, 1159, 1162, 1161, 95, 120] (by decide +kernel) (by decide +kernel)
set_option maxRecDepth 100000 in
theorem gw_161 : GoodIn lw_tbl (x_wl x_i161) := goodIn_r _ [929, 1008, 1011, 1010, 59, 120, 948] (by decide +kernel) (by decide +kernel)
set_option maxRecDepth 100000 in
theorem gw_162 : GoodIn lw_tbl (x_wl x_i162) := goodIn_r _ [] (by decide +kernel) (by decide +kernel)
set_option maxRecDepth 100000 in
theorem gw_163 : GoodIn lw_tbl (x_wl x_i163) := goodIn_r _ [930, 929, 1227, 1229, 1228, 120] (by decide +kernel) (by decide +kernel)
set_option maxRecDepth 100000 in
theorem gw_164 : GoodIn lw_tbl (x_wl x_i164) := goodIn_r _ [930, 929] (by decide +kernel) (by decide +kernel)
set_option maxRecDepth 100000 in
theorem gw_165 : GoodIn lw_tbl (x_wl x_i165) := goodIn_r _ [] (by decide +kernel) (by decide +kernel)
set_option maxRecDepth 100000 in
theorem gw_166 : GoodIn lw_tbl (x_wl x_i166) := goodIn_r _ [931, 929, 1238, 1240, 1239, 120] (by decide +kernel) (by decide +kernel)
set_option maxRecDepth 100000 in
theorem gw_167 : GoodIn lw_tbl (x_wl x_i167) := goodIn_r _ [931, 929, 1227, 1229, 1228, 120, 1238, 1240, 1239, 120] (by decide +kernel) (by decide +kernel)
set_option maxRecDepth 100000 in
theorem gw_168 : GoodIn lw_tbl (x_wl x_i168) := goodIn_r _ [947, 929, 946] (by decide +kernel) (by decide +kernel)
set_option maxRecDepth 100000 in
theorem gw_169 : GoodIn lw_tbl (x_wl x_i169) := goodIn_r _ [932, 935, 929, 933, 934, 1215, 1218, 1217, 109, 120] (by decide +kernel) (by decide +kernel)
set_option maxRecDepth 100000 in
theorem gw_170 : GoodIn lw_tbl (x_wl x_i170) := goodIn_r _ [941, 929, 946, 942, 944, 948] (by decide +kernel) (by decide +kernel)
set_option maxRecDepth 100000 in
theorem gw_171 : GoodIn lw_tbl (x_wl x_i171) := goodIn_r _ [929] (by decide +kernel) (by decide +kernel)
set_option maxRecDepth 100000 in
theorem gw_all : ∀ i ∈ x_tab, GoodIn lw_tbl (x_wl i) := List.forall_mem_cons.mpr ⟨gw_0, List.forall_mem_cons.mpr ⟨gw_1, List.forall_mem_cons.mpr ⟨gw_2, List.forall_mem_cons.mpr ⟨gw_3, List.forall_mem_cons.mpr ⟨gw_4, List.forall_mem_cons.mpr ⟨gw_5, List.forall_mem_cons.mpr ⟨gw_6, List.forall_mem_cons.mpr ⟨gw_7, List.forall_mem_cons.mpr ⟨gw_8, List.forall_mem_cons.mpr ⟨gw_9, List.forall_mem_cons.mpr ⟨gw_10, List.forall_mem_cons.mpr ⟨gw_11, List.forall_mem_cons.mpr ⟨gw_12, List.forall_mem_cons.mpr ⟨gw_13, List.forall_mem_cons.mpr ⟨gw_14, List.forall_mem_cons.mpr ⟨gw_15, List.forall_mem_cons.mpr ⟨gw_16, List.forall_mem_cons.mpr ⟨gw_17, List.forall_mem_cons.mpr ⟨gw_18, List.forall_mem_cons.mpr ⟨gw_19, List.forall_mem_cons.mpr ⟨gw_20, List.forall_mem_cons.mpr ⟨gw_21, List.forall_mem_cons.mpr ⟨gw_22, List.forall_mem_cons.mpr ⟨gw_23, List.forall_mem_cons.mpr ⟨gw_24, List.forall_mem_cons.mpr ⟨gw_25, List.forall_mem_cons.mpr ⟨gw_26, List.forall_mem_cons.mpr ⟨gw_27, List.forall_mem_cons.mpr ⟨gw_28, List.forall_mem_cons.mpr ⟨gw_29, List.forall_mem_cons.mpr ⟨gw_30, List.forall_mem_cons.mpr ⟨gw_31, List.forall_mem_cons.mpr ⟨gw_32, List.forall_mem_cons.mpr ⟨gw_33, List.forall_mem_cons.mpr ⟨gw_34, List.forall_mem_cons.mpr ⟨gw_35, List.forall_mem_cons.mpr ⟨gw_36, List.forall_mem_cons.mpr ⟨gw_37, List.forall_mem_cons.mpr ⟨gw_38, List.forall_mem_cons.mpr ⟨gw_39, List.forall_mem_cons.mpr ⟨gw_40, List.forall_mem_cons.mpr ⟨gw_41, List.forall_mem_cons.mpr ⟨gw_42, List.forall_mem_cons.mpr ⟨gw_43, List.forall_mem_cons.mpr ⟨gw_44, List.forall_mem_cons.mpr ⟨gw_45, List.forall_mem_cons.mpr ⟨gw_46, List.forall_mem_cons.mpr ⟨gw_47, List.forall_mem_cons.mpr ⟨gw_48, List.forall_mem_cons.mpr ⟨gw_49, List.forall_mem_cons.mpr ⟨gw_50, List.forall_mem_cons.mpr ⟨gw_51, List.forall_mem_cons.mpr ⟨gw_52, List.forall_mem_cons.mpr ⟨gw_53, List.forall_mem_cons.mpr ⟨gw_54, List.forall_mem_cons.mpr ⟨gw_55, List.forall_mem_cons.mpr ⟨gw_56, List.forall_mem_cons.mpr ⟨gw_57, List.forall_mem_cons.mpr ⟨gw_58, List.forall_mem_cons.mpr ⟨gw_59, List.forall_mem_cons.mpr ⟨gw_60, List.forall_mem_cons.mpr ⟨gw_61, List.forall_mem_cons.mpr ⟨gw_62, List.forall_mem_cons.mpr ⟨gw_63, List.forall_mem_cons.mpr ⟨gw_64, List.forall_mem_cons.mpr ⟨gw_65, List.forall_mem_cons.mpr ⟨gw_66, List.forall_mem_cons.mpr ⟨gw_67, List.forall_mem_cons.mpr ⟨gw_68, List.forall_mem_cons.mpr ⟨gw_69, List.forall_mem_cons.mpr ⟨gw_70, List.forall_mem_cons.mpr ⟨gw_71, List.forall_mem_cons.mpr ⟨gw_72, List.forall_mem_cons.mpr ⟨gw_73, List.forall_mem_cons.mpr ⟨gw_74, List.forall_mem_cons.mpr ⟨gw_75, List.forall_mem_cons.mpr ⟨gw_76, List.forall_mem_cons.mpr ⟨gw_77, List.forall_mem_cons.mpr ⟨gw_78, List.forall_mem_cons.mpr ⟨gw_79, List.forall_mem_cons.mpr ⟨gw_80, List.forall_mem_cons.mpr ⟨gw_81, List.forall_mem_cons.mpr ⟨gw_82, List.forall_mem_cons.mpr ⟨gw_83, List.forall_mem_cons.mpr ⟨gw_84, List.forall_mem_cons.mpr ⟨gw_85, List.forall_mem_cons.mpr ⟨gw_86, List.forall_mem_cons.mpr ⟨gw_87, List.forall_mem_cons.mpr ⟨gw_88, List.forall_mem_cons.mpr ⟨gw_89, List.forall_mem_cons.mpr ⟨gw_90, List.forall_mem_cons.mpr ⟨gw_91, List.forall_mem_cons.mpr ⟨gw_92, List.forall_mem_cons.mpr ⟨gw_93, List.forall_mem_cons.mpr ⟨gw_94, List.forall_mem_cons.mpr ⟨gw_95, List.forall_mem_cons.mpr ⟨gw_96, List.forall_mem_cons.mpr ⟨gw_97, List.forall_mem_cons.mpr ⟨gw_98, List.forall_mem_cons.mpr ⟨gw_99, List.forall_mem_cons.mpr ⟨gw_100, List.forall_mem_cons.mpr ⟨gw_101, List.forall_mem_cons.mpr ⟨gw_102, List.forall_mem_cons.mpr ⟨gw_103, List.forall_mem_cons.mpr ⟨gw_104, List.forall_mem_cons.mpr ⟨gw_105, List.forall_mem_cons.mpr ⟨gw_106, List.forall_mem_cons.mpr ⟨gw_107, List.forall_mem_cons.mpr ⟨gw_108, List.forall_mem_cons.mpr ⟨gw_109, List.forall_mem_cons.mpr ⟨gw_110, List.forall_mem_cons.mpr ⟨gw_111, List.forall_mem_cons.mpr ⟨gw_112, List.forall_mem_cons.mpr ⟨gw_113, List.forall_mem_cons.mpr ⟨gw_114, List.forall_mem_cons.mpr ⟨gw_115, List.forall_mem_cons.mpr ⟨gw_116, List.forall_mem_cons.mpr ⟨gw_117, List.forall_mem_cons.mpr ⟨gw_118, List.forall_mem_cons.mpr ⟨gw_119, List.forall_mem_cons.mpr ⟨gw_120, List.forall_mem_cons.mpr ⟨gw_121, List.forall_mem_cons.mpr ⟨gw_122, List.forall_mem_cons.mpr ⟨gw_123, List.forall_mem_cons.mpr ⟨gw_124, List.forall_mem_cons.mpr ⟨gw_125, List.forall_mem_cons.mpr ⟨gw_126, List.forall_mem_cons.mpr ⟨gw_127, List.forall_mem_cons.mpr ⟨gw_128, List.forall_mem_cons.mpr ⟨gw_129, List.forall_mem_cons.mpr ⟨gw_130, List.forall_mem_cons.mpr ⟨gw_131, List.forall_mem_cons.mpr ⟨gw_132, List.forall_mem_cons.mpr ⟨gw_133, List.forall_mem_cons.mpr ⟨gw_134, List.forall_mem_cons.mpr ⟨gw_135, List.forall_mem_cons.mpr ⟨gw_136, List.forall_mem_cons.mpr ⟨gw_137, List.forall_mem_cons.mpr ⟨gw_138, List.forall_mem_cons.mpr ⟨gw_139, List.forall_mem_cons.mpr ⟨gw_140, List.forall_mem_cons.mpr ⟨gw_141, List.forall_mem_cons.mpr ⟨gw_142, List.forall_mem_cons.mpr ⟨gw_143, List.forall_mem_cons.mpr ⟨gw_144, List.forall_mem_cons.mpr ⟨gw_145, List.forall_mem_cons.mpr ⟨gw_146, List.forall_mem_cons.mpr ⟨gw_147, List.forall_mem_cons.mpr ⟨gw_148, List.forall_mem_cons.mpr ⟨gw_149, List.forall_mem_cons.mpr ⟨gw_150, List.forall_mem_cons.mpr ⟨gw_151, List.forall_mem_cons.mpr ⟨gw_152, List.forall_mem_cons.mpr ⟨gw_153, List.forall_mem_cons.mpr ⟨gw_154, List.forall_mem_cons.mpr ⟨gw_155, List.forall_mem_cons.mpr ⟨gw_156, List.forall_mem_cons.mpr ⟨gw_157, List.forall_mem_cons.mpr ⟨gw_158, List.forall_mem_cons.mpr ⟨gw_159, List.forall_mem_cons.mpr ⟨gw_160, List.forall_mem_cons.mpr ⟨gw_161, List.forall_mem_cons.mpr ⟨gw_162, List.forall_mem_cons.mpr ⟨gw_163, List.forall_mem_cons.mpr ⟨gw_164, List.forall_mem_cons.mpr ⟨gw_165, List.forall_mem_cons.mpr ⟨gw_166, List.forall_mem_cons.mpr ⟨gw_167, List.forall_mem_cons.mpr ⟨gw_168, List.forall_mem_cons.mpr ⟨gw_169, List.forall_mem_cons.mpr ⟨gw_170, List.forall_mem_cons.mpr ⟨gw_171, fun _ h => absurd h List.not_mem_nil⟩⟩⟩⟩⟩⟩⟩⟩⟩⟩⟩⟩⟩⟩⟩⟩⟩⟩⟩⟩⟩⟩⟩⟩⟩⟩⟩⟩⟩⟩⟩⟩⟩⟩⟩⟩⟩⟩⟩⟩⟩⟩⟩⟩⟩⟩⟩⟩⟩⟩⟩⟩⟩⟩⟩⟩⟩⟩⟩⟩⟩⟩⟩⟩⟩⟩⟩⟩⟩⟩⟩⟩⟩⟩⟩⟩⟩⟩⟩⟩⟩⟩⟩⟩⟩⟩⟩⟩⟩⟩⟩⟩⟩⟩⟩⟩⟩⟩⟩⟩⟩⟩⟩⟩⟩⟩⟩⟩⟩⟩⟩⟩⟩⟩⟩⟩⟩⟩⟩⟩⟩⟩⟩⟩⟩⟩⟩⟩⟩⟩⟩⟩⟩⟩⟩⟩⟩⟩⟩⟩⟩⟩⟩⟩⟩⟩⟩⟩⟩⟩⟩⟩⟩⟩⟩⟩⟩⟩⟩⟩⟩⟩⟩⟩⟩⟩⟩⟩⟩⟩⟩⟩
set_option maxRecDepth 100000 in
theorem gl_X7 : GoodIn lw_tbl (u_ws RX7 TX7 9) := goodIn_of _ (by decide +kernel)
set_option maxRecDepth 100000 in
theorem gl_X4 : GoodIn lw_tbl (u_ws RX4 TX4 1) := goodIn_of _ (by decide +kernel)
set_option maxRecDepth 100000 in
theorem gl_X5 : GoodIn lw_tbl (u_ws RX5 TX5 9) := goodIn_of _ (by decide +kernel)
set_option maxRecDepth 100000 in
theorem gl_X1 : GoodIn lw_tbl (u_ws RX1 TX1 2) := goodIn_of _ (by decide +kernel)
set_option maxRecDepth 100000 in
theorem gl_X3 : GoodIn lw_tbl (u_ws RX3 TX3 3) := goodIn_of _ (by decide +kernel)
set_option maxRecDepth 100000 in
theorem gl_X6 : GoodIn lw_tbl (u_ws RX6 TX6 2) := goodIn_of _ (by decide +kernel)
set_option maxRecDepth 100000 in
theorem gl_X2 : GoodIn lw_tbl (u_ws RX2 TX2 5) := goodIn_of _ (by decide +kernel)
set_option maxRecDepth 100000 in
theorem gl_X0 : GoodIn lw_tbl (u_ws RX0 TX0 9) := goodIn_of _ (by decide +kernel)
set_option maxRecDepth 100000 in
theorem gl_XM : GoodIn lw_tbl (u_ws RXM TXM 22) := goodIn_of _ (by decide +kernel)
theorem gl_all : ∀ c ∈ x_cl, GoodIn lw_tbl (u_ws c.1 c.2.1 c.2.2) := List.forall_mem_cons.mpr ⟨gl_X7, List.forall_mem_cons.mpr ⟨gl_X4, List.forall_mem_cons.mpr ⟨gl_X5, List.forall_mem_cons.mpr ⟨gl_X1, List.forall_mem_cons.mpr ⟨gl_X3, List.forall_mem_cons.mpr ⟨gl_X6, List.forall_mem_cons.mpr ⟨gl_X2, List.forall_mem_cons.mpr ⟨gl_X0, List.forall_mem_cons.mpr ⟨gl_XM, fun _ h => absurd h List.not_mem_nil⟩⟩⟩⟩⟩⟩⟩⟩⟩
theorem x_words_in : GoodIn lw_tbl x_words := fun w hw => by
  rcases List.mem_append.mp hw with hw | hw
  · obtain ⟨c, hc, hw⟩ := List.mem_flatMap.mp hw
    exact gl_all c hc w hw
  · obtain ⟨i, hi, hw⟩ := List.mem_flatMap.mp hw
    exact gw_all i hi w hw
theorem gd_of {w : Cond} (h : (w.onTables && w.keeps) = true ∨ ∃ ty, w = .arrayClass ty) : goodWord w = true := by
  rcases h with h | ⟨ty, rfl⟩
  · cases w <;> first | exact h | rfl
  · rfl
theorem x_words_good : ∀ w ∈ x_words, goodWord w = true := fun w hw => gd_of (x_words_in w hw).2
