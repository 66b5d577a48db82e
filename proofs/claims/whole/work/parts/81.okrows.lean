theorem az_okms : (List.range 219).all az_okm = true := by decide +kernel
set_option maxRecDepth 100000 in
theorem az_cw_0 : az_cw 0 := az_cw_of 97 rfl
set_option maxRecDepth 100000 in
theorem az_cw_1 : az_cw 1 := az_cw_of 185 rfl
set_option maxRecDepth 100000 in
theorem az_cw_2 : az_cw 2 := az_cw_of 217 rfl
set_option maxRecDepth 100000 in
theorem az_cw_3 : az_cw 3 := az_cw_of 242 rfl
set_option maxRecDepth 100000 in
theorem az_cw_4 : az_cw 4 := az_cw_of 236 rfl
set_option maxRecDepth 100000 in
theorem az_cw_5 : az_cw 5 := az_cw_of 299 rfl
set_option maxRecDepth 100000 in
theorem az_cw_6 : az_cw 6 := az_cw_of 313 rfl
set_option maxRecDepth 100000 in
theorem az_cw_7 : az_cw 7 := az_cw_of 86 rfl
set_option maxRecDepth 100000 in
theorem az_cw_8 : az_cw 8 := az_cw_of 923 rfl
set_option maxRecDepth 100000 in
theorem az_cw_9 : az_cw 9 := az_cw_of 368 rfl
set_option maxRecDepth 100000 in
theorem az_cw_10 : az_cw 10 := az_cw_of 365 rfl
set_option maxRecDepth 100000 in
theorem az_cw_11 : az_cw 11 := az_cw_of 373 rfl
set_option maxRecDepth 100000 in
theorem az_cw_12 : az_cw 12 := az_cw_of 378 rfl
set_option maxRecDepth 100000 in
theorem az_cw_13 : az_cw 13 := az_cw_of 382 rfl
set_option maxRecDepth 100000 in
theorem az_cw_14 : az_cw 14 := az_cw_of 362 rfl
set_option maxRecDepth 100000 in
theorem az_cw_15 : az_cw 15 := az_cw_of 1012 rfl
set_option maxRecDepth 100000 in
theorem az_cw_16 : az_cw 16 := az_cw_of 1008 rfl
set_option maxRecDepth 100000 in
theorem az_cw_17 : az_cw 17 := az_cw_of 1018 rfl
set_option maxRecDepth 100000 in
theorem az_cw_18 : az_cw 18 := az_cw_of 1023 rfl
set_option maxRecDepth 100000 in
theorem az_cw_19 : az_cw 19 := az_cw_of 1005 rfl
set_option maxRecDepth 100000 in
theorem az_cw_20 : az_cw 20 := az_cw_of 390 rfl
set_option maxRecDepth 100000 in
theorem az_cw_21 : az_cw 21 := az_cw_of 394 rfl
set_option maxRecDepth 100000 in
theorem az_cw_22 : az_cw 22 := az_cw_of 398 rfl
set_option maxRecDepth 100000 in
theorem az_cw_23 : az_cw 23 := az_cw_of 386 rfl
set_option maxRecDepth 100000 in
theorem az_cw_24 : az_cw 24 := az_cw_of 1027 rfl
set_option maxRecDepth 100000 in
theorem az_cw_25 : az_cw 25 := az_cw_of 402 rfl
set_option maxRecDepth 100000 in
theorem az_cw_26 : az_cw 26 := az_cw_of 1031 rfl
set_option maxRecDepth 100000 in
theorem az_cw_27 : az_cw 27 := az_cw_of 413 rfl
set_option maxRecDepth 100000 in
theorem az_cw_28 : az_cw 28 := az_cw_of 409 rfl
set_option maxRecDepth 100000 in
theorem az_cw_29 : az_cw 29 := az_cw_of 1035 rfl
set_option maxRecDepth 100000 in
theorem az_cw_30 : az_cw 30 := az_cw_of 421 rfl
set_option maxRecDepth 100000 in
theorem az_cw_31 : az_cw 31 := az_cw_of 426 rfl
set_option maxRecDepth 100000 in
theorem az_cw_32 : az_cw 32 := az_cw_of 417 rfl
set_option maxRecDepth 100000 in
theorem az_cw_33 : az_cw 33 := az_cw_of 1039 rfl
set_option maxRecDepth 100000 in
theorem az_cw_34 : az_cw 34 := az_cw_of 442 rfl
set_option maxRecDepth 100000 in
theorem az_cw_35 : az_cw 35 := az_cw_of 446 rfl
set_option maxRecDepth 100000 in
theorem az_cw_36 : az_cw 36 := az_cw_of 438 rfl
set_option maxRecDepth 100000 in
theorem az_cw_37 : az_cw 37 := az_cw_of 450 rfl
set_option maxRecDepth 100000 in
theorem az_cw_38 : az_cw 38 := az_cw_of 471 rfl
set_option maxRecDepth 100000 in
theorem az_cw_39 : az_cw 39 := az_cw_of 467 rfl
set_option maxRecDepth 100000 in
theorem az_cw_40 : az_cw 40 := az_cw_of 481 rfl
set_option maxRecDepth 100000 in
theorem az_cw_41 : az_cw 41 := az_cw_of 492 rfl
set_option maxRecDepth 100000 in
theorem az_cw_42 : az_cw 42 := az_cw_of 487 rfl
set_option maxRecDepth 100000 in
theorem az_cw_43 : az_cw 43 := az_cw_of 484 rfl
set_option maxRecDepth 100000 in
theorem az_cw_44 : az_cw 44 := az_cw_of 501 rfl
set_option maxRecDepth 100000 in
theorem az_cw_45 : az_cw 45 := az_cw_of 498 rfl
set_option maxRecDepth 100000 in
theorem az_cw_46 : az_cw 46 := az_cw_of 505 rfl
set_option maxRecDepth 100000 in
theorem az_cw_47 : az_cw 47 := az_cw_of 495 rfl
set_option maxRecDepth 100000 in
theorem az_cw_48 : az_cw 48 := az_cw_of 477 rfl
set_option maxRecDepth 100000 in
theorem az_cw_49 : az_cw 49 := az_cw_of 463 rfl
set_option maxRecDepth 100000 in
theorem az_cw_50 : az_cw 50 := az_cw_of 515 rfl
set_option maxRecDepth 100000 in
theorem az_cw_51 : az_cw 51 := az_cw_of 459 rfl
set_option maxRecDepth 100000 in
theorem az_cw_52 : az_cw 52 := az_cw_of 523 rfl
set_option maxRecDepth 100000 in
theorem az_cw_53 : az_cw 53 := az_cw_of 519 rfl
set_option maxRecDepth 100000 in
theorem az_cw_54 : az_cw 54 := az_cw_of 527 rfl
set_option maxRecDepth 100000 in
theorem az_cw_55 : az_cw 55 := az_cw_of 454 rfl
set_option maxRecDepth 100000 in
theorem az_cw_56 : az_cw 56 := az_cw_of 531 rfl
set_option maxRecDepth 100000 in
theorem az_cw_57 : az_cw 57 := az_cw_of 548 rfl
set_option maxRecDepth 100000 in
theorem az_cw_58 : az_cw 58 := az_cw_of 545 rfl
set_option maxRecDepth 100000 in
theorem az_cw_59 : az_cw 59 := az_cw_of 540 rfl
set_option maxRecDepth 100000 in
theorem az_cw_60 : az_cw 60 := az_cw_of 536 rfl
set_option maxRecDepth 100000 in
theorem az_cw_61 : az_cw 61 := az_cw_of 557 rfl
set_option maxRecDepth 100000 in
theorem az_cw_62 : az_cw 62 := az_cw_of 434 rfl
set_option maxRecDepth 100000 in
theorem az_cw_63 : az_cw 63 := az_cw_of 562 rfl
set_option maxRecDepth 100000 in
theorem az_cw_64 : az_cw 64 := az_cw_of 567 rfl
set_option maxRecDepth 100000 in
theorem az_cw_65 : az_cw 65 := az_cw_of 430 rfl
set_option maxRecDepth 100000 in
theorem az_cw_66 : az_cw 66 := az_cw_of 1062 rfl
set_option maxRecDepth 100000 in
theorem az_cw_67 : az_cw 67 := az_cw_of 1059 rfl
set_option maxRecDepth 100000 in
theorem az_cw_68 : az_cw 68 := az_cw_of 1074 rfl
set_option maxRecDepth 100000 in
theorem az_cw_69 : az_cw 69 := az_cw_of 1055 rfl
set_option maxRecDepth 100000 in
theorem az_cw_70 : az_cw 70 := az_cw_of 1078 rfl
set_option maxRecDepth 100000 in
theorem az_cw_71 : az_cw 71 := az_cw_of 1082 rfl
set_option maxRecDepth 100000 in
theorem az_cw_72 : az_cw 72 := az_cw_of 1092 rfl
set_option maxRecDepth 100000 in
theorem az_cw_73 : az_cw 73 := az_cw_of 1087 rfl
set_option maxRecDepth 100000 in
theorem az_cw_74 : az_cw 74 := az_cw_of 1050 rfl
set_option maxRecDepth 100000 in
theorem az_cw_75 : az_cw 75 := az_cw_of 1101 rfl
set_option maxRecDepth 100000 in
theorem az_cw_76 : az_cw 76 := az_cw_of 1046 rfl
set_option maxRecDepth 100000 in
theorem az_cw_77 : az_cw 77 := az_cw_of 571 rfl
set_option maxRecDepth 100000 in
theorem az_cw_78 : az_cw 78 := az_cw_of 1105 rfl
set_option maxRecDepth 100000 in
theorem az_cw_79 : az_cw 79 := az_cw_of 580 rfl
set_option maxRecDepth 100000 in
theorem az_cw_80 : az_cw 80 := az_cw_of 594 rfl
set_option maxRecDepth 100000 in
theorem az_cw_81 : az_cw 81 := az_cw_of 591 rfl
set_option maxRecDepth 100000 in
theorem az_cw_82 : az_cw 82 := az_cw_of 588 rfl
set_option maxRecDepth 100000 in
theorem az_cw_83 : az_cw 83 := az_cw_of 575 rfl
set_option maxRecDepth 100000 in
theorem az_cw_84 : az_cw 84 := az_cw_of 1114 rfl
set_option maxRecDepth 100000 in
theorem az_cw_85 : az_cw 85 := az_cw_of 1118 rfl
set_option maxRecDepth 100000 in
theorem az_cw_86 : az_cw 86 := az_cw_of 1109 rfl
set_option maxRecDepth 100000 in
theorem az_cw_87 : az_cw 87 := az_cw_of 602 rfl
set_option maxRecDepth 100000 in
theorem az_cw_88 : az_cw 88 := az_cw_of 598 rfl
set_option maxRecDepth 100000 in
theorem az_cw_89 : az_cw 89 := az_cw_of 1126 rfl
set_option maxRecDepth 100000 in
theorem az_cw_90 : az_cw 90 := az_cw_of 1122 rfl
set_option maxRecDepth 100000 in
theorem az_cw_91 : az_cw 91 := az_cw_of 611 rfl
set_option maxRecDepth 100000 in
theorem az_cw_92 : az_cw 92 := az_cw_of 608 rfl
set_option maxRecDepth 100000 in
theorem az_cw_93 : az_cw 93 := az_cw_of 1130 rfl
set_option maxRecDepth 100000 in
theorem az_cw_94 : az_cw 94 := az_cw_of 615 rfl
set_option maxRecDepth 100000 in
theorem az_cw_95 : az_cw 95 := az_cw_of 1135 rfl
set_option maxRecDepth 100000 in
theorem az_cw_96 : az_cw 96 := az_cw_of 619 rfl
set_option maxRecDepth 100000 in
theorem az_cw_97 : az_cw 97 := az_cw_of 1139 rfl
set_option maxRecDepth 100000 in
theorem az_cw_98 : az_cw 98 := az_cw_of 634 rfl
set_option maxRecDepth 100000 in
theorem az_cw_99 : az_cw 99 := az_cw_of 638 rfl
set_option maxRecDepth 100000 in
theorem az_cw_100 : az_cw 100 := az_cw_of 628 rfl
set_option maxRecDepth 100000 in
theorem az_cw_101 : az_cw 101 := az_cw_of 650 rfl
set_option maxRecDepth 100000 in
theorem az_cw_102 : az_cw 102 := az_cw_of 654 rfl
set_option maxRecDepth 100000 in
theorem az_cw_103 : az_cw 103 := az_cw_of 658 rfl
set_option maxRecDepth 100000 in
theorem az_cw_104 : az_cw 104 := az_cw_of 662 rfl
set_option maxRecDepth 100000 in
theorem az_cw_105 : az_cw 105 := az_cw_of 667 rfl
set_option maxRecDepth 100000 in
theorem az_cw_106 : az_cw 106 := az_cw_of 646 rfl
set_option maxRecDepth 100000 in
theorem az_cw_107 : az_cw 107 := az_cw_of 642 rfl
set_option maxRecDepth 100000 in
theorem az_cw_108 : az_cw 108 := az_cw_of 675 rfl
set_option maxRecDepth 100000 in
theorem az_cw_109 : az_cw 109 := az_cw_of 671 rfl
set_option maxRecDepth 100000 in
theorem az_cw_110 : az_cw 110 := az_cw_of 680 rfl
set_option maxRecDepth 100000 in
theorem az_cw_111 : az_cw 111 := az_cw_of 624 rfl
set_option maxRecDepth 100000 in
theorem az_cw_112 : az_cw 112 := az_cw_of 1148 rfl
set_option maxRecDepth 100000 in
theorem az_cw_113 : az_cw 113 := az_cw_of 1156 rfl
set_option maxRecDepth 100000 in
theorem az_cw_114 : az_cw 114 := az_cw_of 1160 rfl
set_option maxRecDepth 100000 in
theorem az_cw_115 : az_cw 115 := az_cw_of 1168 rfl
set_option maxRecDepth 100000 in
theorem az_cw_116 : az_cw 116 := az_cw_of 1164 rfl
set_option maxRecDepth 100000 in
theorem az_cw_117 : az_cw 117 := az_cw_of 1152 rfl
set_option maxRecDepth 100000 in
theorem az_cw_118 : az_cw 118 := az_cw_of 1173 rfl
set_option maxRecDepth 100000 in
theorem az_cw_119 : az_cw 119 := az_cw_of 1176 rfl
set_option maxRecDepth 100000 in
theorem az_cw_120 : az_cw 120 := az_cw_of 1144 rfl
set_option maxRecDepth 100000 in
theorem az_cw_121 : az_cw 121 := az_cw_of 688 rfl
set_option maxRecDepth 100000 in
theorem az_cw_122 : az_cw 122 := az_cw_of 684 rfl
set_option maxRecDepth 100000 in
theorem az_cw_123 : az_cw 123 := az_cw_of 1180 rfl
set_option maxRecDepth 100000 in
theorem az_cw_124 : az_cw 124 := az_cw_of 692 rfl
set_option maxRecDepth 100000 in
theorem az_cw_125 : az_cw 125 := az_cw_of 1184 rfl
set_option maxRecDepth 100000 in
theorem az_cw_126 : az_cw 126 := az_cw_of 697 rfl
set_option maxRecDepth 100000 in
theorem az_cw_127 : az_cw 127 := az_cw_of 1189 rfl
set_option maxRecDepth 100000 in
theorem az_cw_128 : az_cw 128 := az_cw_of 709 rfl
set_option maxRecDepth 100000 in
theorem az_cw_129 : az_cw 129 := az_cw_of 705 rfl
set_option maxRecDepth 100000 in
theorem az_cw_130 : az_cw 130 := az_cw_of 717 rfl
set_option maxRecDepth 100000 in
theorem az_cw_131 : az_cw 131 := az_cw_of 713 rfl
set_option maxRecDepth 100000 in
theorem az_cw_132 : az_cw 132 := az_cw_of 701 rfl
set_option maxRecDepth 100000 in
theorem az_cw_133 : az_cw 133 := az_cw_of 1197 rfl
set_option maxRecDepth 100000 in
theorem az_cw_134 : az_cw 134 := az_cw_of 1205 rfl
set_option maxRecDepth 100000 in
theorem az_cw_135 : az_cw 135 := az_cw_of 1201 rfl
set_option maxRecDepth 100000 in
theorem az_cw_136 : az_cw 136 := az_cw_of 1193 rfl
set_option maxRecDepth 100000 in
theorem az_cw_137 : az_cw 137 := az_cw_of 727 rfl
set_option maxRecDepth 100000 in
theorem az_cw_138 : az_cw 138 := az_cw_of 723 rfl
set_option maxRecDepth 100000 in
theorem az_cw_139 : az_cw 139 := az_cw_of 1213 rfl
set_option maxRecDepth 100000 in
theorem az_cw_140 : az_cw 140 := az_cw_of 1209 rfl
set_option maxRecDepth 100000 in
theorem az_cw_141 : az_cw 141 := az_cw_of 737 rfl
set_option maxRecDepth 100000 in
theorem az_cw_142 : az_cw 142 := az_cw_of 733 rfl
set_option maxRecDepth 100000 in
theorem az_cw_143 : az_cw 143 := az_cw_of 1221 rfl
set_option maxRecDepth 100000 in
theorem az_cw_144 : az_cw 144 := az_cw_of 1217 rfl
set_option maxRecDepth 100000 in
theorem az_cw_145 : az_cw 145 := az_cw_of 751 rfl
set_option maxRecDepth 100000 in
theorem az_cw_146 : az_cw 146 := az_cw_of 755 rfl
set_option maxRecDepth 100000 in
theorem az_cw_147 : az_cw 147 := az_cw_of 759 rfl
set_option maxRecDepth 100000 in
theorem az_cw_148 : az_cw 148 := az_cw_of 767 rfl
set_option maxRecDepth 100000 in
theorem az_cw_149 : az_cw 149 := az_cw_of 763 rfl
set_option maxRecDepth 100000 in
theorem az_cw_150 : az_cw 150 := az_cw_of 747 rfl
set_option maxRecDepth 100000 in
theorem az_cw_151 : az_cw 151 := az_cw_of 743 rfl
set_option maxRecDepth 100000 in
theorem az_cw_152 : az_cw 152 := az_cw_of 1229 rfl
set_option maxRecDepth 100000 in
theorem az_cw_153 : az_cw 153 := az_cw_of 1233 rfl
set_option maxRecDepth 100000 in
theorem az_cw_154 : az_cw 154 := az_cw_of 1237 rfl
set_option maxRecDepth 100000 in
theorem az_cw_155 : az_cw 155 := az_cw_of 1225 rfl
set_option maxRecDepth 100000 in
theorem az_cw_156 : az_cw 156 := az_cw_of 776 rfl
set_option maxRecDepth 100000 in
theorem az_cw_157 : az_cw 157 := az_cw_of 772 rfl
set_option maxRecDepth 100000 in
theorem az_cw_158 : az_cw 158 := az_cw_of 1241 rfl
set_option maxRecDepth 100000 in
theorem az_cw_159 : az_cw 159 := az_cw_of 787 rfl
set_option maxRecDepth 100000 in
theorem az_cw_160 : az_cw 160 := az_cw_of 796 rfl
set_option maxRecDepth 100000 in
theorem az_cw_161 : az_cw 161 := az_cw_of 783 rfl
set_option maxRecDepth 100000 in
theorem az_cw_162 : az_cw 162 := az_cw_of 1245 rfl
set_option maxRecDepth 100000 in
theorem az_cw_163 : az_cw 163 := az_cw_of 809 rfl
set_option maxRecDepth 100000 in
theorem az_cw_164 : az_cw 164 := az_cw_of 814 rfl
set_option maxRecDepth 100000 in
theorem az_cw_165 : az_cw 165 := az_cw_of 805 rfl
set_option maxRecDepth 100000 in
theorem az_cw_166 : az_cw 166 := az_cw_of 800 rfl
set_option maxRecDepth 100000 in
theorem az_cw_167 : az_cw 167 := az_cw_of 1249 rfl
set_option maxRecDepth 100000 in
theorem az_cw_168 : az_cw 168 := az_cw_of 827 rfl
set_option maxRecDepth 100000 in
theorem az_cw_169 : az_cw 169 := az_cw_of 822 rfl
set_option maxRecDepth 100000 in
theorem az_cw_170 : az_cw 170 := az_cw_of 835 rfl
set_option maxRecDepth 100000 in
theorem az_cw_171 : az_cw 171 := az_cw_of 818 rfl
set_option maxRecDepth 100000 in
theorem az_cw_172 : az_cw 172 := az_cw_of 1254 rfl
set_option maxRecDepth 100000 in
theorem az_cw_173 : az_cw 173 := az_cw_of 843 rfl
set_option maxRecDepth 100000 in
theorem az_cw_174 : az_cw 174 := az_cw_of 839 rfl
set_option maxRecDepth 100000 in
theorem az_cw_175 : az_cw 175 := az_cw_of 1258 rfl
set_option maxRecDepth 100000 in
theorem az_cw_176 : az_cw 176 := az_cw_of 849 rfl
set_option maxRecDepth 100000 in
theorem az_cw_177 : az_cw 177 := az_cw_of 1262 rfl
set_option maxRecDepth 100000 in
theorem az_cw_178 : az_cw 178 := az_cw_of 854 rfl
set_option maxRecDepth 100000 in
theorem az_cw_179 : az_cw 179 := az_cw_of 1267 rfl
set_option maxRecDepth 100000 in
theorem az_cw_180 : az_cw 180 := az_cw_of 858 rfl
set_option maxRecDepth 100000 in
theorem az_cw_181 : az_cw 181 := az_cw_of 1271 rfl
set_option maxRecDepth 100000 in
theorem az_cw_182 : az_cw 182 := az_cw_of 862 rfl
set_option maxRecDepth 100000 in
theorem az_cw_183 : az_cw 183 := az_cw_of 1275 rfl
set_option maxRecDepth 100000 in
theorem az_cw_184 : az_cw 184 := az_cw_of 869 rfl
set_option maxRecDepth 100000 in
theorem az_cw_185 : az_cw 185 := az_cw_of 866 rfl
set_option maxRecDepth 100000 in
theorem az_cw_186 : az_cw 186 := az_cw_of 1282 rfl
set_option maxRecDepth 100000 in
theorem az_cw_187 : az_cw 187 := az_cw_of 1279 rfl
set_option maxRecDepth 100000 in
theorem az_cw_188 : az_cw 188 := az_cw_of 888 rfl
set_option maxRecDepth 100000 in
theorem az_cw_189 : az_cw 189 := az_cw_of 892 rfl
set_option maxRecDepth 100000 in
theorem az_cw_190 : az_cw 190 := az_cw_of 884 rfl
set_option maxRecDepth 100000 in
theorem az_cw_191 : az_cw 191 := az_cw_of 892 rfl
set_option maxRecDepth 100000 in
theorem az_cw_192 : az_cw 192 := az_cw_of 884 rfl
set_option maxRecDepth 100000 in
theorem az_cw_193 : az_cw 193 := az_cw_of 892 rfl
set_option maxRecDepth 100000 in
theorem az_cw_194 : az_cw 194 := az_cw_of 884 rfl
set_option maxRecDepth 100000 in
theorem az_cw_195 : az_cw 195 := az_cw_of 892 rfl
set_option maxRecDepth 100000 in
theorem az_cw_196 : az_cw 196 := az_cw_of 884 rfl
set_option maxRecDepth 100000 in
theorem az_cw_197 : az_cw 197 := az_cw_of 892 rfl
set_option maxRecDepth 100000 in
theorem az_cw_198 : az_cw 198 := az_cw_of 884 rfl
set_option maxRecDepth 100000 in
theorem az_cw_199 : az_cw 199 := az_cw_of 892 rfl
set_option maxRecDepth 100000 in
theorem az_cw_200 : az_cw 200 := az_cw_of 884 rfl
set_option maxRecDepth 100000 in
theorem az_cw_201 : az_cw 201 := az_cw_of 892 rfl
set_option maxRecDepth 100000 in
theorem az_cw_202 : az_cw 202 := az_cw_of 884 rfl
set_option maxRecDepth 100000 in
theorem az_cw_203 : az_cw 203 := az_cw_of 880 rfl
set_option maxRecDepth 100000 in
theorem az_cw_204 : az_cw 204 := az_cw_of 876 rfl
set_option maxRecDepth 100000 in
theorem az_cw_205 : az_cw 205 := az_cw_of 1297 rfl
set_option maxRecDepth 100000 in
theorem az_cw_206 : az_cw 206 := az_cw_of 1290 rfl
set_option maxRecDepth 100000 in
theorem az_cw_207 : az_cw 207 := az_cw_of 1304 rfl
set_option maxRecDepth 100000 in
theorem az_cw_208 : az_cw 208 := az_cw_of 1286 rfl
set_option maxRecDepth 100000 in
theorem az_cw_209 : az_cw 209 := az_cw_of 896 rfl
set_option maxRecDepth 100000 in
theorem az_cw_210 : az_cw 210 := az_cw_of 1311 rfl
set_option maxRecDepth 100000 in
theorem az_cw_211 : az_cw 211 := az_cw_of 904 rfl
set_option maxRecDepth 100000 in
theorem az_cw_212 : az_cw 212 := az_cw_of 907 rfl
set_option maxRecDepth 100000 in
theorem az_cw_213 : az_cw 213 := az_cw_of 914 rfl
set_option maxRecDepth 100000 in
theorem az_cw_214 : az_cw 214 := az_cw_of 900 rfl
set_option maxRecDepth 100000 in
theorem az_cw_215 : az_cw 215 := az_cw_of 1315 rfl
set_option maxRecDepth 100000 in
theorem az_cw_216 : az_cw 216 := az_cw_of 918 rfl
set_option maxRecDepth 100000 in
theorem az_cw_217 : az_cw 217 := az_cw_of 1319 rfl
theorem az_ok_0 : az_okc 0 (az_cd 0) = true := by decide +kernel
theorem az_ok_1 : az_okc 1 (az_cd 1) = true := by decide +kernel
theorem az_ok_2 : az_okc 2 (az_cd 2) = true := by decide +kernel
theorem az_ok_3 : az_okc 3 (az_cd 3) = true := by decide +kernel
theorem az_ok_4 : az_okc 4 (az_cd 4) = true := by decide +kernel
theorem az_ok_5 : az_okc 5 (az_cd 5) = true := by decide +kernel
theorem az_ok_6 : az_okc 6 (az_cd 6) = true := by decide +kernel
theorem az_ok_7_151 : az_okc 7 zX7_init_151 = true := az_okp_ok 7 1 _ (by decide +kernel) rfl
theorem az_ok_7_127 : az_okc 7 zX7_init_127 = true := az_okp_ok 7 12 _ (by decide +kernel) az_ok_7_151
theorem az_ok_7_125 : az_okc 7 zX7_init_125 = true := az_okp_ok 7 2 _ (by decide +kernel) az_ok_7_127
theorem az_ok_7_100 : az_okc 7 zX7_init_100 = true := az_okp_ok 7 12 _ (by decide +kernel) az_ok_7_125
theorem az_ok_7_0 : az_okc 7 zX7_init_0 = true := az_okp_ok 7 47 _ (by decide +kernel) az_ok_7_100
theorem az_ok_7 : az_okc 7 (az_cd 7) = true := az_ok_7_0
theorem az_ok_8_129 : az_okc 8 zX8_init_129 = true := az_okp_ok 8 1 _ (by decide +kernel) rfl
theorem az_ok_8_110 : az_okc 8 zX8_init_110 = true := az_okp_ok 8 10 _ (by decide +kernel) az_ok_8_129
theorem az_ok_8_0 : az_okc 8 zX8_init_0 = true := az_okp_ok 8 56 _ (by decide +kernel) az_ok_8_110
theorem az_ok_8 : az_okc 8 (az_cd 8) = true := az_ok_8_0
theorem az_ok_9 : az_okc 9 (az_cd 9) = true := by decide +kernel
theorem az_ok_10 : az_okc 10 (az_cd 10) = true := by decide +kernel
theorem az_ok_11 : az_okc 11 (az_cd 11) = true := by decide +kernel
theorem az_ok_12 : az_okc 12 (az_cd 12) = true := by decide +kernel
theorem az_ok_13 : az_okc 13 (az_cd 13) = true := by decide +kernel
theorem az_ok_14 : az_okc 14 (az_cd 14) = true := by decide +kernel
theorem az_ok_15 : az_okc 15 (az_cd 15) = true := by decide +kernel
theorem az_ok_16 : az_okc 16 (az_cd 16) = true := by decide +kernel
theorem az_ok_17 : az_okc 17 (az_cd 17) = true := by decide +kernel
theorem az_ok_18 : az_okc 18 (az_cd 18) = true := by decide +kernel
theorem az_ok_19 : az_okc 19 (az_cd 19) = true := by decide +kernel
theorem az_ok_20 : az_okc 20 (az_cd 20) = true := by decide +kernel
theorem az_ok_21 : az_okc 21 (az_cd 21) = true := by decide +kernel
theorem az_ok_22 : az_okc 22 (az_cd 22) = true := by decide +kernel
theorem az_ok_23 : az_okc 23 (az_cd 23) = true := by decide +kernel
theorem az_ok_24_89 : az_okc 24 zX8_set_89 = true := az_okp_ok 24 12 _ (by decide +kernel) rfl
theorem az_ok_24_88 : az_okc 24 zX8_set_88 = true := az_okp_ok 24 1 _ (by decide +kernel) az_ok_24_89
theorem az_ok_24_73 : az_okc 24 zX8_set_73 = true := az_okp_ok 24 9 _ (by decide +kernel) az_ok_24_88
theorem az_ok_24_49 : az_okc 24 zX8_set_49 = true := az_okp_ok 24 15 _ (by decide +kernel) az_ok_24_73
theorem az_ok_24_25 : az_okc 24 zX8_set_25 = true := az_okp_ok 24 16 _ (by decide +kernel) az_ok_24_49
theorem az_ok_24_10 : az_okc 24 zX8_set_10 = true := az_okp_ok 24 9 _ (by decide +kernel) az_ok_24_25
theorem az_ok_24_0 : az_okc 24 zX8_set_0 = true := az_okp_ok 24 5 _ (by decide +kernel) az_ok_24_10
theorem az_ok_24 : az_okc 24 (az_cd 24) = true := az_ok_24_0
theorem az_ok_25_103 : az_okc 25 zX7_copy_103 = true := az_okp_ok 25 12 _ (by decide +kernel) rfl
theorem az_ok_25_97 : az_okc 25 zX7_copy_97 = true := az_okp_ok 25 4 _ (by decide +kernel) az_ok_25_103
theorem az_ok_25_74 : az_okc 25 zX7_copy_74 = true := az_okp_ok 25 10 _ (by decide +kernel) az_ok_25_97
theorem az_ok_25_55 : az_okc 25 zX7_copy_55 = true := az_okp_ok 25 9 _ (by decide +kernel) az_ok_25_74
theorem az_ok_25_49 : az_okc 25 zX7_copy_49 = true := az_okp_ok 25 4 _ (by decide +kernel) az_ok_25_55
theorem az_ok_25_17 : az_okc 25 zX7_copy_17 = true := az_okp_ok 25 16 _ (by decide +kernel) az_ok_25_49
theorem az_ok_25_14 : az_okc 25 zX7_copy_14 = true := az_okp_ok 25 2 _ (by decide +kernel) az_ok_25_17
theorem az_ok_25_0 : az_okc 25 zX7_copy_0 = true := az_okp_ok 25 6 _ (by decide +kernel) az_ok_25_14
theorem az_ok_25 : az_okc 25 (az_cd 25) = true := az_ok_25_0
theorem az_ok_26_182 : az_okc 26 zX8_copy_182 = true := az_okp_ok 26 4 _ (by decide +kernel) rfl
theorem az_ok_26_145 : az_okc 26 zX8_copy_145 = true := az_okp_ok 26 23 _ (by decide +kernel) az_ok_26_182
theorem az_ok_26_143 : az_okc 26 zX8_copy_143 = true := az_okp_ok 26 1 _ (by decide +kernel) az_ok_26_145
theorem az_ok_26_120 : az_okc 26 zX8_copy_120 = true := az_okp_ok 26 12 _ (by decide +kernel) az_ok_26_143
theorem az_ok_26_117 : az_okc 26 zX8_copy_117 = true := az_okp_ok 26 2 _ (by decide +kernel) az_ok_26_120
theorem az_ok_26_111 : az_okc 26 zX8_copy_111 = true := az_okp_ok 26 4 _ (by decide +kernel) az_ok_26_117
theorem az_ok_26_62 : az_okc 26 zX8_copy_62 = true := az_okp_ok 26 30 _ (by decide +kernel) az_ok_26_111
theorem az_ok_26_41 : az_okc 26 zX8_copy_41 = true := az_okp_ok 26 13 _ (by decide +kernel) az_ok_26_62
theorem az_ok_26_35 : az_okc 26 zX8_copy_35 = true := az_okp_ok 26 4 _ (by decide +kernel) az_ok_26_41
theorem az_ok_26_17 : az_okc 26 zX8_copy_17 = true := az_okp_ok 26 10 _ (by decide +kernel) az_ok_26_35
theorem az_ok_26_14 : az_okc 26 zX8_copy_14 = true := az_okp_ok 26 2 _ (by decide +kernel) az_ok_26_17
theorem az_ok_26_0 : az_okc 26 zX8_copy_0 = true := az_okp_ok 26 6 _ (by decide +kernel) az_ok_26_14
theorem az_ok_26 : az_okc 26 (az_cd 26) = true := az_ok_26_0
theorem az_ok_27 : az_okc 27 (az_cd 27) = true := by decide +kernel
theorem az_ok_28 : az_okc 28 (az_cd 28) = true := by decide +kernel
theorem az_ok_29 : az_okc 29 (az_cd 29) = true := by decide +kernel
theorem az_ok_30 : az_okc 30 (az_cd 30) = true := by decide +kernel
theorem az_ok_31 : az_okc 31 (az_cd 31) = true := by decide +kernel
theorem az_ok_32 : az_okc 32 (az_cd 32) = true := by decide +kernel
theorem az_ok_33 : az_okc 33 (az_cd 33) = true := by decide +kernel
theorem az_ok_34 : az_okc 34 (az_cd 34) = true := by decide +kernel
theorem az_ok_35 : az_okc 35 (az_cd 35) = true := by decide +kernel
theorem az_ok_36_199 : az_okc 36 zX6_advance_199 = true := az_okp_ok 36 1 _ (by decide +kernel) rfl
theorem az_ok_36_186 : az_okc 36 zX6_advance_186 = true := az_okp_ok 36 7 _ (by decide +kernel) az_ok_36_199
theorem az_ok_36_185 : az_okc 36 zX6_advance_185 = true := az_okp_ok 36 1 _ (by decide +kernel) az_ok_36_186
theorem az_ok_36_166 : az_okc 36 zX6_advance_166 = true := az_okp_ok 36 10 _ (by decide +kernel) az_ok_36_185
theorem az_ok_36_160 : az_okc 36 zX6_advance_160 = true := az_okp_ok 36 2 _ (by decide +kernel) az_ok_36_166
theorem az_ok_36_159 : az_okc 36 zX6_advance_159 = true := az_okp_ok 36 1 _ (by decide +kernel) az_ok_36_160
theorem az_ok_36_118 : az_okc 36 zX6_advance_118 = true := az_okp_ok 36 21 _ (by decide +kernel) az_ok_36_159
theorem az_ok_36_87 : az_okc 36 zX6_advance_87 = true := az_okp_ok 36 15 _ (by decide +kernel) az_ok_36_118
theorem az_ok_36_60 : az_okc 36 zX6_advance_60 = true := az_okp_ok 36 13 _ (by decide +kernel) az_ok_36_87
theorem az_ok_36_47 : az_okc 36 zX6_advance_47 = true := az_okp_ok 36 7 _ (by decide +kernel) az_ok_36_60
theorem az_ok_36_8 : az_okc 36 zX6_advance_8 = true := az_okp_ok 36 19 _ (by decide +kernel) az_ok_36_47
theorem az_ok_36_0 : az_okc 36 zX6_advance_0 = true := az_okp_ok 36 4 _ (by decide +kernel) az_ok_36_8
theorem az_ok_36 : az_okc 36 (az_cd 36) = true := az_ok_36_0
theorem az_ok_37 : az_okc 37 (az_cd 37) = true := by decide +kernel
theorem az_ok_38 : az_okc 38 (az_cd 38) = true := by decide +kernel
theorem az_ok_39 : az_okc 39 (az_cd 39) = true := by decide +kernel
theorem az_ok_40 : az_okc 40 (az_cd 40) = true := by decide +kernel
theorem az_ok_41 : az_okc 41 (az_cd 41) = true := by decide +kernel
theorem az_ok_42 : az_okc 42 (az_cd 42) = true := by decide +kernel
theorem az_ok_43 : az_okc 43 (az_cd 43) = true := by decide +kernel
theorem az_ok_44 : az_okc 44 (az_cd 44) = true := by decide +kernel
theorem az_ok_45 : az_okc 45 (az_cd 45) = true := by decide +kernel
theorem az_ok_46 : az_okc 46 (az_cd 46) = true := by decide +kernel
theorem az_ok_47 : az_okc 47 (az_cd 47) = true := by decide +kernel
theorem az_ok_48 : az_okc 48 (az_cd 48) = true := by decide +kernel
theorem az_ok_49 : az_okc 49 (az_cd 49) = true := by decide +kernel
theorem az_ok_50 : az_okc 50 (az_cd 50) = true := by decide +kernel
theorem az_ok_51 : az_okc 51 (az_cd 51) = true := by decide +kernel
theorem az_ok_52 : az_okc 52 (az_cd 52) = true := by decide +kernel
theorem az_ok_53 : az_okc 53 (az_cd 53) = true := by decide +kernel
theorem az_ok_54 : az_okc 54 (az_cd 54) = true := by decide +kernel
theorem az_ok_55 : az_okc 55 (az_cd 55) = true := by decide +kernel
theorem az_ok_56 : az_okc 56 (az_cd 56) = true := by decide +kernel
theorem az_ok_57 : az_okc 57 (az_cd 57) = true := by decide +kernel
theorem az_ok_58 : az_okc 58 (az_cd 58) = true := by decide +kernel
theorem az_ok_59_85 : az_okc 59 zX6_readGuest_85 = true := az_okp_ok 59 14 _ (by decide +kernel) rfl
theorem az_ok_59_63 : az_okc 59 zX6_readGuest_63 = true := az_okp_ok 59 13 _ (by decide +kernel) az_ok_59_85
theorem az_ok_59_40 : az_okc 59 zX6_readGuest_40 = true := az_okp_ok 59 13 _ (by decide +kernel) az_ok_59_63
theorem az_ok_59_18 : az_okc 59 zX6_readGuest_18 = true := az_okp_ok 59 13 _ (by decide +kernel) az_ok_59_40
theorem az_ok_59_16 : az_okc 59 zX6_readGuest_16 = true := az_okp_ok 59 2 _ (by decide +kernel) az_ok_59_18
theorem az_ok_59_0 : az_okc 59 zX6_readGuest_0 = true := az_okp_ok 59 7 _ (by decide +kernel) az_ok_59_16
theorem az_ok_59 : az_okc 59 (az_cd 59) = true := az_ok_59_0
theorem az_ok_60 : az_okc 60 (az_cd 60) = true := by decide +kernel
theorem az_ok_61 : az_okc 61 (az_cd 61) = true := by decide +kernel
theorem az_ok_62 : az_okc 62 (az_cd 62) = true := by decide +kernel
theorem az_ok_63_0 : az_okc 63 zX1_become_0 = true := az_okp_ok 63 93 _ (by decide +kernel) rfl
theorem az_ok_63 : az_okc 63 (az_cd 63) = true := az_ok_63_0
theorem az_ok_64 : az_okc 64 (az_cd 64) = true := by decide +kernel
theorem az_ok_65 : az_okc 65 (az_cd 65) = true := by decide +kernel
theorem az_ok_66 : az_okc 66 (az_cd 66) = true := by decide +kernel
theorem az_ok_67_281 : az_okc 67 zX8_next_281 = true := az_okp_ok 67 2 _ (by decide +kernel) rfl
theorem az_ok_67_277 : az_okc 67 zX8_next_277 = true := az_okp_ok 67 2 _ (by decide +kernel) az_ok_67_281
theorem az_ok_67_251 : az_okc 67 zX8_next_251 = true := az_okp_ok 67 14 _ (by decide +kernel) az_ok_67_277
theorem az_ok_67_235 : az_okc 67 zX8_next_235 = true := az_okp_ok 67 8 _ (by decide +kernel) az_ok_67_251
theorem az_ok_67_220 : az_okc 67 zX8_next_220 = true := az_okp_ok 67 9 _ (by decide +kernel) az_ok_67_235
theorem az_ok_67_194 : az_okc 67 zX8_next_194 = true := az_okp_ok 67 14 _ (by decide +kernel) az_ok_67_220
theorem az_ok_67_118 : az_okc 67 zX8_next_118 = true := az_okp_ok 67 37 _ (by decide +kernel) az_ok_67_194
theorem az_ok_67_114 : az_okc 67 zX8_next_114 = true := az_okp_ok 67 2 _ (by decide +kernel) az_ok_67_118
theorem az_ok_67_113 : az_okc 67 zX8_next_113 = true := az_okp_ok 67 1 _ (by decide +kernel) az_ok_67_114
theorem az_ok_67_88 : az_okc 67 zX8_next_88 = true := az_okp_ok 67 13 _ (by decide +kernel) az_ok_67_113
theorem az_ok_67_87 : az_okc 67 zX8_next_87 = true := az_okp_ok 67 1 _ (by decide +kernel) az_ok_67_88
theorem az_ok_67_52 : az_okc 67 zX8_next_52 = true := az_okp_ok 67 17 _ (by decide +kernel) az_ok_67_87
theorem az_ok_67_39 : az_okc 67 zX8_next_39 = true := az_okp_ok 67 7 _ (by decide +kernel) az_ok_67_52
theorem az_ok_67_0 : az_okc 67 zX8_next_0 = true := az_okp_ok 67 19 _ (by decide +kernel) az_ok_67_39
theorem az_ok_67 : az_okc 67 (az_cd 67) = true := az_ok_67_0
theorem az_ok_68 : az_okc 68 (az_cd 68) = true := by decide +kernel
theorem az_ok_69 : az_okc 69 (az_cd 69) = true := by decide +kernel
theorem az_ok_70 : az_okc 70 (az_cd 70) = true := by decide +kernel
theorem az_ok_71 : az_okc 71 (az_cd 71) = true := by decide +kernel
theorem az_ok_72 : az_okc 72 (az_cd 72) = true := by decide +kernel
theorem az_ok_73_134 : az_okc 73 zX8_readsGuest_134 = true := az_okp_ok 73 11 _ (by decide +kernel) rfl
theorem az_ok_73_132 : az_okc 73 zX8_readsGuest_132 = true := az_okp_ok 73 2 _ (by decide +kernel) az_ok_73_134
theorem az_ok_73_83 : az_okc 73 zX8_readsGuest_83 = true := az_okp_ok 73 26 _ (by decide +kernel) az_ok_73_132
theorem az_ok_73_82 : az_okc 73 zX8_readsGuest_82 = true := az_okp_ok 73 1 _ (by decide +kernel) az_ok_73_83
theorem az_ok_73_52 : az_okc 73 zX8_readsGuest_52 = true := az_okp_ok 73 18 _ (by decide +kernel) az_ok_73_82
theorem az_ok_73_33 : az_okc 73 zX8_readsGuest_33 = true := az_okp_ok 73 13 _ (by decide +kernel) az_ok_73_52
theorem az_ok_73_25 : az_okc 73 zX8_readsGuest_25 = true := az_okp_ok 73 4 _ (by decide +kernel) az_ok_73_33
theorem az_ok_73_24 : az_okc 73 zX8_readsGuest_24 = true := az_okp_ok 73 1 _ (by decide +kernel) az_ok_73_25
theorem az_ok_73_0 : az_okc 73 zX8_readsGuest_0 = true := az_okp_ok 73 12 _ (by decide +kernel) az_ok_73_24
theorem az_ok_73 : az_okc 73 (az_cd 73) = true := az_ok_73_0
theorem az_ok_74_142 : az_okc 74 zX8_reads_142 = true := az_okp_ok 74 2 _ (by decide +kernel) rfl
theorem az_ok_74_135 : az_okc 74 zX8_reads_135 = true := az_okp_ok 74 3 _ (by decide +kernel) az_ok_74_142
theorem az_ok_74_119 : az_okc 74 zX8_reads_119 = true := az_okp_ok 74 8 _ (by decide +kernel) az_ok_74_135
theorem az_ok_74_115 : az_okc 74 zX8_reads_115 = true := az_okp_ok 74 2 _ (by decide +kernel) az_ok_74_119
theorem az_ok_74_106 : az_okc 74 zX8_reads_106 = true := az_okp_ok 74 5 _ (by decide +kernel) az_ok_74_115
theorem az_ok_74_100 : az_okc 74 zX8_reads_100 = true := az_okp_ok 74 2 _ (by decide +kernel) az_ok_74_106
theorem az_ok_74_78 : az_okc 74 zX8_reads_78 = true := az_okp_ok 74 13 _ (by decide +kernel) az_ok_74_100
theorem az_ok_74_76 : az_okc 74 zX8_reads_76 = true := az_okp_ok 74 2 _ (by decide +kernel) az_ok_74_78
theorem az_ok_74_74 : az_okc 74 zX8_reads_74 = true := az_okp_ok 74 2 _ (by decide +kernel) az_ok_74_76
theorem az_ok_74_21 : az_okc 74 zX8_reads_21 = true := az_okp_ok 74 26 _ (by decide +kernel) az_ok_74_74
theorem az_ok_74_2 : az_okc 74 zX8_reads_2 = true := az_okp_ok 74 10 _ (by decide +kernel) az_ok_74_21
theorem az_ok_74_0 : az_okc 74 zX8_reads_0 = true := az_okp_ok 74 2 _ (by decide +kernel) az_ok_74_2
theorem az_ok_74 : az_okc 74 (az_cd 74) = true := az_ok_74_0
theorem az_ok_75 : az_okc 75 (az_cd 75) = true := by decide +kernel
theorem az_ok_76 : az_okc 76 (az_cd 76) = true := by decide +kernel
theorem az_ok_77 : az_okc 77 (az_cd 77) = true := by decide +kernel
theorem az_ok_78 : az_okc 78 (az_cd 78) = true := by decide +kernel
theorem az_ok_79 : az_okc 79 (az_cd 79) = true := by decide +kernel
theorem az_ok_80 : az_okc 80 (az_cd 80) = true := by decide +kernel
theorem az_ok_81 : az_okc 81 (az_cd 81) = true := by decide +kernel
theorem az_ok_82 : az_okc 82 (az_cd 82) = true := by decide +kernel
theorem az_ok_83 : az_okc 83 (az_cd 83) = true := by decide +kernel
theorem az_ok_84 : az_okc 84 (az_cd 84) = true := by decide +kernel
theorem az_ok_85 : az_okc 85 (az_cd 85) = true := by decide +kernel
theorem az_ok_86_84 : az_okc 86 zX8_hour_84 = true := az_okp_ok 86 10 _ (by decide +kernel) rfl
theorem az_ok_86_78 : az_okc 86 zX8_hour_78 = true := az_okp_ok 86 2 _ (by decide +kernel) az_ok_86_84
theorem az_ok_86_32 : az_okc 86 zX8_hour_32 = true := az_okp_ok 86 30 _ (by decide +kernel) az_ok_86_78
theorem az_ok_86_24 : az_okc 86 zX8_hour_24 = true := az_okp_ok 86 6 _ (by decide +kernel) az_ok_86_32
theorem az_ok_86_10 : az_okc 86 zX8_hour_10 = true := az_okp_ok 86 8 _ (by decide +kernel) az_ok_86_24
theorem az_ok_86_0 : az_okc 86 zX8_hour_0 = true := az_okp_ok 86 5 _ (by decide +kernel) az_ok_86_10
theorem az_ok_86 : az_okc 86 (az_cd 86) = true := az_ok_86_0
theorem az_ok_87 : az_okc 87 (az_cd 87) = true := by decide +kernel
theorem az_ok_88 : az_okc 88 (az_cd 88) = true := by decide +kernel
theorem az_ok_89 : az_okc 89 (az_cd 89) = true := by decide +kernel
theorem az_ok_90 : az_okc 90 (az_cd 90) = true := by decide +kernel
theorem az_ok_91 : az_okc 91 (az_cd 91) = true := by decide +kernel
theorem az_ok_92 : az_okc 92 (az_cd 92) = true := by decide +kernel
theorem az_ok_93 : az_okc 93 (az_cd 93) = true := by decide +kernel
theorem az_ok_94 : az_okc 94 (az_cd 94) = true := by decide +kernel
theorem az_ok_95 : az_okc 95 (az_cd 95) = true := by decide +kernel
theorem az_ok_96_66 : az_okc 96 zX7_gift_66 = true := az_okp_ok 96 26 _ (by decide +kernel) rfl
theorem az_ok_96_26 : az_okc 96 zX7_gift_26 = true := az_okp_ok 96 23 _ (by decide +kernel) az_ok_96_66
theorem az_ok_96_23 : az_okc 96 zX7_gift_23 = true := az_okp_ok 96 2 _ (by decide +kernel) az_ok_96_26
theorem az_ok_96_0 : az_okc 96 zX7_gift_0 = true := az_okp_ok 96 11 _ (by decide +kernel) az_ok_96_23
theorem az_ok_96 : az_okc 96 (az_cd 96) = true := az_ok_96_0
theorem az_ok_97_92 : az_okc 97 zX8_gift_92 = true := az_okp_ok 97 18 _ (by decide +kernel) rfl
theorem az_ok_97_89 : az_okc 97 zX8_gift_89 = true := az_okp_ok 97 3 _ (by decide +kernel) az_ok_97_92
theorem az_ok_97_68 : az_okc 97 zX8_gift_68 = true := az_okp_ok 97 12 _ (by decide +kernel) az_ok_97_89
theorem az_ok_97_45 : az_okc 97 zX8_gift_45 = true := az_okp_ok 97 13 _ (by decide +kernel) az_ok_97_68
theorem az_ok_97_44 : az_okc 97 zX8_gift_44 = true := az_okp_ok 97 1 _ (by decide +kernel) az_ok_97_45
theorem az_ok_97_23 : az_okc 97 zX8_gift_23 = true := az_okp_ok 97 14 _ (by decide +kernel) az_ok_97_44
theorem az_ok_97_20 : az_okc 97 zX8_gift_20 = true := az_okp_ok 97 2 _ (by decide +kernel) az_ok_97_23
theorem az_ok_97_0 : az_okc 97 zX8_gift_0 = true := az_okp_ok 97 10 _ (by decide +kernel) az_ok_97_20
theorem az_ok_97 : az_okc 97 (az_cd 97) = true := az_ok_97_0
theorem az_ok_98 : az_okc 98 (az_cd 98) = true := by decide +kernel
theorem az_ok_99 : az_okc 99 (az_cd 99) = true := by decide +kernel
theorem az_ok_100_181 : az_okc 100 zX2_open_181 = true := az_okp_ok 100 1 _ (by decide +kernel) rfl
theorem az_ok_100_175 : az_okc 100 zX2_open_175 = true := az_okp_ok 100 2 _ (by decide +kernel) az_ok_100_181
theorem az_ok_100_143 : az_okc 100 zX2_open_143 = true := az_okp_ok 100 17 _ (by decide +kernel) az_ok_100_175
theorem az_ok_100_128 : az_okc 100 zX2_open_128 = true := az_okp_ok 100 10 _ (by decide +kernel) az_ok_100_143
theorem az_ok_100_127 : az_okc 100 zX2_open_127 = true := az_okp_ok 100 1 _ (by decide +kernel) az_ok_100_128
theorem az_ok_100_123 : az_okc 100 zX2_open_123 = true := az_okp_ok 100 2 _ (by decide +kernel) az_ok_100_127
theorem az_ok_100_113 : az_okc 100 zX2_open_113 = true := az_okp_ok 100 6 _ (by decide +kernel) az_ok_100_123
theorem az_ok_100_98 : az_okc 100 zX2_open_98 = true := az_okp_ok 100 9 _ (by decide +kernel) az_ok_100_113
theorem az_ok_100_97 : az_okc 100 zX2_open_97 = true := az_okp_ok 100 1 _ (by decide +kernel) az_ok_100_98
theorem az_ok_100_73 : az_okc 100 zX2_open_73 = true := az_okp_ok 100 12 _ (by decide +kernel) az_ok_100_97
theorem az_ok_100_72 : az_okc 100 zX2_open_72 = true := az_okp_ok 100 1 _ (by decide +kernel) az_ok_100_73
theorem az_ok_100_43 : az_okc 100 zX2_open_43 = true := az_okp_ok 100 17 _ (by decide +kernel) az_ok_100_72
theorem az_ok_100_41 : az_okc 100 zX2_open_41 = true := az_okp_ok 100 2 _ (by decide +kernel) az_ok_100_43
theorem az_ok_100_18 : az_okc 100 zX2_open_18 = true := az_okp_ok 100 12 _ (by decide +kernel) az_ok_100_41
theorem az_ok_100_0 : az_okc 100 zX2_open_0 = true := az_okp_ok 100 10 _ (by decide +kernel) az_ok_100_18
theorem az_ok_100 : az_okc 100 (az_cd 100) = true := az_ok_100_0
theorem az_ok_101 : az_okc 101 (az_cd 101) = true := by decide +kernel
theorem az_ok_102 : az_okc 102 (az_cd 102) = true := by decide +kernel
theorem az_ok_103_126 : az_okc 103 zX2_alike_126 = true := az_okp_ok 103 9 _ (by decide +kernel) rfl
theorem az_ok_103_124 : az_okc 103 zX2_alike_124 = true := az_okp_ok 103 1 _ (by decide +kernel) az_ok_103_126
theorem az_ok_103_112 : az_okc 103 zX2_alike_112 = true := az_okp_ok 103 5 _ (by decide +kernel) az_ok_103_124
theorem az_ok_103_86 : az_okc 103 zX2_alike_86 = true := az_okp_ok 103 15 _ (by decide +kernel) az_ok_103_112
theorem az_ok_103_84 : az_okc 103 zX2_alike_84 = true := az_okp_ok 103 2 _ (by decide +kernel) az_ok_103_86
theorem az_ok_103_69 : az_okc 103 zX2_alike_69 = true := az_okp_ok 103 8 _ (by decide +kernel) az_ok_103_84
theorem az_ok_103_63 : az_okc 103 zX2_alike_63 = true := az_okp_ok 103 2 _ (by decide +kernel) az_ok_103_69
theorem az_ok_103_60 : az_okc 103 zX2_alike_60 = true := az_okp_ok 103 2 _ (by decide +kernel) az_ok_103_63
theorem az_ok_103_59 : az_okc 103 zX2_alike_59 = true := az_okp_ok 103 1 _ (by decide +kernel) az_ok_103_60
theorem az_ok_103_9 : az_okc 103 zX2_alike_9 = true := az_okp_ok 103 26 _ (by decide +kernel) az_ok_103_59
theorem az_ok_103_0 : az_okc 103 zX2_alike_0 = true := az_okp_ok 103 6 _ (by decide +kernel) az_ok_103_9
theorem az_ok_103 : az_okc 103 (az_cd 103) = true := az_ok_103_0
theorem az_ok_104_150 : az_okc 104 zX2_byWeight_150 = true := az_okp_ok 104 2 _ (by decide +kernel) rfl
theorem az_ok_104_149 : az_okc 104 zX2_byWeight_149 = true := az_okp_ok 104 1 _ (by decide +kernel) az_ok_104_150
theorem az_ok_104_120 : az_okc 104 zX2_byWeight_120 = true := az_okp_ok 104 18 _ (by decide +kernel) az_ok_104_149
theorem az_ok_104_114 : az_okc 104 zX2_byWeight_114 = true := az_okp_ok 104 2 _ (by decide +kernel) az_ok_104_120
theorem az_ok_104_58 : az_okc 104 zX2_byWeight_58 = true := az_okp_ok 104 31 _ (by decide +kernel) az_ok_104_114
theorem az_ok_104_48 : az_okc 104 zX2_byWeight_48 = true := az_okp_ok 104 6 _ (by decide +kernel) az_ok_104_58
theorem az_ok_104_41 : az_okc 104 zX2_byWeight_41 = true := az_okp_ok 104 4 _ (by decide +kernel) az_ok_104_48
theorem az_ok_104_6 : az_okc 104 zX2_byWeight_6 = true := az_okp_ok 104 18 _ (by decide +kernel) az_ok_104_41
theorem az_ok_104_0 : az_okc 104 zX2_byWeight_0 = true := az_okp_ok 104 4 _ (by decide +kernel) az_ok_104_6
theorem az_ok_104 : az_okc 104 (az_cd 104) = true := az_ok_104_0
theorem az_ok_105 : az_okc 105 (az_cd 105) = true := by decide +kernel
theorem az_ok_106 : az_okc 106 (az_cd 106) = true := by decide +kernel
theorem az_ok_107 : az_okc 107 (az_cd 107) = true := by decide +kernel
theorem az_ok_108 : az_okc 108 (az_cd 108) = true := by decide +kernel
theorem az_ok_109 : az_okc 109 (az_cd 109) = true := by decide +kernel
theorem az_ok_110 : az_okc 110 (az_cd 110) = true := by decide +kernel
theorem az_ok_111 : az_okc 111 (az_cd 111) = true := by decide +kernel
theorem az_ok_112 : az_okc 112 (az_cd 112) = true := by decide +kernel
theorem az_ok_113 : az_okc 113 (az_cd 113) = true := by decide +kernel
theorem az_ok_114 : az_okc 114 (az_cd 114) = true := by decide +kernel
theorem az_ok_115 : az_okc 115 (az_cd 115) = true := by decide +kernel
theorem az_ok_116_130 : az_okc 116 zX8_parts_130 = true := az_okp_ok 116 1 _ (by decide +kernel) rfl
theorem az_ok_116_124 : az_okc 116 zX8_parts_124 = true := az_okp_ok 116 2 _ (by decide +kernel) az_ok_116_130
theorem az_ok_116_112 : az_okc 116 zX8_parts_112 = true := az_okp_ok 116 6 _ (by decide +kernel) az_ok_116_124
theorem az_ok_116_111 : az_okc 116 zX8_parts_111 = true := az_okp_ok 116 1 _ (by decide +kernel) az_ok_116_112
theorem az_ok_116_66 : az_okc 116 zX8_parts_66 = true := az_okp_ok 116 26 _ (by decide +kernel) az_ok_116_111
theorem az_ok_116_52 : az_okc 116 zX8_parts_52 = true := az_okp_ok 116 8 _ (by decide +kernel) az_ok_116_66
theorem az_ok_116_46 : az_okc 116 zX8_parts_46 = true := az_okp_ok 116 4 _ (by decide +kernel) az_ok_116_52
theorem az_ok_116_38 : az_okc 116 zX8_parts_38 = true := az_okp_ok 116 4 _ (by decide +kernel) az_ok_116_46
theorem az_ok_116_37 : az_okc 116 zX8_parts_37 = true := az_okp_ok 116 1 _ (by decide +kernel) az_ok_116_38
theorem az_ok_116_5 : az_okc 116 zX8_parts_5 = true := az_okp_ok 116 17 _ (by decide +kernel) az_ok_116_37
theorem az_ok_116_0 : az_okc 116 zX8_parts_0 = true := az_okp_ok 116 4 _ (by decide +kernel) az_ok_116_5
theorem az_ok_116 : az_okc 116 (az_cd 116) = true := az_ok_116_0
theorem az_ok_117_232 : az_okc 117 zX8_share_232 = true := az_okp_ok 117 1 _ (by decide +kernel) rfl
theorem az_ok_117_220 : az_okc 117 zX8_share_220 = true := az_okp_ok 117 8 _ (by decide +kernel) az_ok_117_232
theorem az_ok_117_166 : az_okc 117 zX8_share_166 = true := az_okp_ok 117 31 _ (by decide +kernel) az_ok_117_220
theorem az_ok_117_160 : az_okc 117 zX8_share_160 = true := az_okp_ok 117 4 _ (by decide +kernel) az_ok_117_166
theorem az_ok_117_152 : az_okc 117 zX8_share_152 = true := az_okp_ok 117 3 _ (by decide +kernel) az_ok_117_160
theorem az_ok_117_150 : az_okc 117 zX8_share_150 = true := az_okp_ok 117 1 _ (by decide +kernel) az_ok_117_152
theorem az_ok_117_99 : az_okc 117 zX8_share_99 = true := az_okp_ok 117 28 _ (by decide +kernel) az_ok_117_150
theorem az_ok_117_82 : az_okc 117 zX8_share_82 = true := az_okp_ok 117 10 _ (by decide +kernel) az_ok_117_99
theorem az_ok_117_52 : az_okc 117 zX8_share_52 = true := az_okp_ok 117 16 _ (by decide +kernel) az_ok_117_82
theorem az_ok_117_50 : az_okc 117 zX8_share_50 = true := az_okp_ok 117 2 _ (by decide +kernel) az_ok_117_52
theorem az_ok_117_35 : az_okc 117 zX8_share_35 = true := az_okp_ok 117 9 _ (by decide +kernel) az_ok_117_50
theorem az_ok_117_20 : az_okc 117 zX8_share_20 = true := az_okp_ok 117 9 _ (by decide +kernel) az_ok_117_35
theorem az_ok_117_2 : az_okc 117 zX8_share_2 = true := az_okp_ok 117 10 _ (by decide +kernel) az_ok_117_20
theorem az_ok_117_0 : az_okc 117 zX8_share_0 = true := az_okp_ok 117 2 _ (by decide +kernel) az_ok_117_2
theorem az_ok_117 : az_okc 117 (az_cd 117) = true := az_ok_117_0
theorem az_ok_118 : az_okc 118 (az_cd 118) = true := by decide +kernel
theorem az_ok_119 : az_okc 119 (az_cd 119) = true := by decide +kernel
theorem az_ok_120_214 : az_okc 120 zX8_sunset_214 = true := az_okp_ok 120 20 _ (by decide +kernel) rfl
theorem az_ok_120_130 : az_okc 120 zX8_sunset_130 = true := az_okp_ok 120 54 _ (by decide +kernel) az_ok_120_214
theorem az_ok_120_121 : az_okc 120 zX8_sunset_121 = true := az_okp_ok 120 6 _ (by decide +kernel) az_ok_120_130
theorem az_ok_120_88 : az_okc 120 zX8_sunset_88 = true := az_okp_ok 120 20 _ (by decide +kernel) az_ok_120_121
theorem az_ok_120_77 : az_okc 120 zX8_sunset_77 = true := az_okp_ok 120 7 _ (by decide +kernel) az_ok_120_88
theorem az_ok_120_46 : az_okc 120 zX8_sunset_46 = true := az_okp_ok 120 18 _ (by decide +kernel) az_ok_120_77
theorem az_ok_120_36 : az_okc 120 zX8_sunset_36 = true := az_okp_ok 120 6 _ (by decide +kernel) az_ok_120_46
theorem az_ok_120_21 : az_okc 120 zX8_sunset_21 = true := az_okp_ok 120 8 _ (by decide +kernel) az_ok_120_36
theorem az_ok_120_18 : az_okc 120 zX8_sunset_18 = true := az_okp_ok 120 2 _ (by decide +kernel) az_ok_120_21
theorem az_ok_120_0 : az_okc 120 zX8_sunset_0 = true := az_okp_ok 120 9 _ (by decide +kernel) az_ok_120_18
theorem az_ok_120 : az_okc 120 (az_cd 120) = true := az_ok_120_0
theorem az_ok_121 : az_okc 121 (az_cd 121) = true := by decide +kernel
theorem az_ok_122 : az_okc 122 (az_cd 122) = true := by decide +kernel
theorem az_ok_123 : az_okc 123 (az_cd 123) = true := by decide +kernel
theorem az_ok_124 : az_okc 124 (az_cd 124) = true := by decide +kernel
theorem az_ok_125_126 : az_okc 125 zX8_guest_126 = true := az_okp_ok 125 7 _ (by decide +kernel) rfl
theorem az_ok_125_116 : az_okc 125 zX8_guest_116 = true := az_okp_ok 125 7 _ (by decide +kernel) az_ok_125_126
theorem az_ok_125_106 : az_okc 125 zX8_guest_106 = true := az_okp_ok 125 7 _ (by decide +kernel) az_ok_125_116
theorem az_ok_125_94 : az_okc 125 zX8_guest_94 = true := az_okp_ok 125 9 _ (by decide +kernel) az_ok_125_106
theorem az_ok_125_84 : az_okc 125 zX8_guest_84 = true := az_okp_ok 125 7 _ (by decide +kernel) az_ok_125_94
theorem az_ok_125_74 : az_okc 125 zX8_guest_74 = true := az_okp_ok 125 7 _ (by decide +kernel) az_ok_125_84
theorem az_ok_125_64 : az_okc 125 zX8_guest_64 = true := az_okp_ok 125 7 _ (by decide +kernel) az_ok_125_74
theorem az_ok_125_23 : az_okc 125 zX8_guest_23 = true := az_okp_ok 125 2 _ (by decide +kernel) az_ok_125_64
theorem az_ok_125_20 : az_okc 125 zX8_guest_20 = true := az_okp_ok 125 2 _ (by decide +kernel) az_ok_125_23
theorem az_ok_125_0 : az_okc 125 zX8_guest_0 = true := az_okp_ok 125 10 _ (by decide +kernel) az_ok_125_20
theorem az_ok_125 : az_okc 125 (az_cd 125) = true := az_ok_125_0
theorem az_ok_126 : az_okc 126 (az_cd 126) = true := by decide +kernel
theorem az_ok_127 : az_okc 127 (az_cd 127) = true := by decide +kernel
theorem az_ok_128_117 : az_okc 128 zX7_look_117 = true := az_okp_ok 128 4 _ (by decide +kernel) rfl
theorem az_ok_128_111 : az_okc 128 zX7_look_111 = true := az_okp_ok 128 2 _ (by decide +kernel) az_ok_128_117
theorem az_ok_128_108 : az_okc 128 zX7_look_108 = true := az_okp_ok 128 2 _ (by decide +kernel) az_ok_128_111
theorem az_ok_128_73 : az_okc 128 zX7_look_73 = true := az_okp_ok 128 16 _ (by decide +kernel) az_ok_128_108
theorem az_ok_128_70 : az_okc 128 zX7_look_70 = true := az_okp_ok 128 2 _ (by decide +kernel) az_ok_128_73
theorem az_ok_128_49 : az_okc 128 zX7_look_49 = true := az_okp_ok 128 10 _ (by decide +kernel) az_ok_128_70
theorem az_ok_128_27 : az_okc 128 zX7_look_27 = true := az_okp_ok 128 12 _ (by decide +kernel) az_ok_128_49
theorem az_ok_128_24 : az_okc 128 zX7_look_24 = true := az_okp_ok 128 2 _ (by decide +kernel) az_ok_128_27
theorem az_ok_128_13 : az_okc 128 zX7_look_13 = true := az_okp_ok 128 5 _ (by decide +kernel) az_ok_128_24
theorem az_ok_128_0 : az_okc 128 zX7_look_0 = true := az_okp_ok 128 6 _ (by decide +kernel) az_ok_128_13
theorem az_ok_128 : az_okc 128 (az_cd 128) = true := az_ok_128_0
theorem az_ok_129 : az_okc 129 (az_cd 129) = true := by decide +kernel
theorem az_ok_130 : az_okc 130 (az_cd 130) = true := by decide +kernel
theorem az_ok_131 : az_okc 131 (az_cd 131) = true := by decide +kernel
theorem az_ok_132 : az_okc 132 (az_cd 132) = true := by decide +kernel
theorem az_ok_133_124 : az_okc 133 zX8_tells_124 = true := az_okp_ok 133 7 _ (by decide +kernel) rfl
theorem az_ok_133_99 : az_okc 133 zX8_tells_99 = true := az_okp_ok 133 14 _ (by decide +kernel) az_ok_133_124
theorem az_ok_133_63 : az_okc 133 zX8_tells_63 = true := az_okp_ok 133 22 _ (by decide +kernel) az_ok_133_99
theorem az_ok_133_60 : az_okc 133 zX8_tells_60 = true := az_okp_ok 133 2 _ (by decide +kernel) az_ok_133_63
theorem az_ok_133_39 : az_okc 133 zX8_tells_39 = true := az_okp_ok 133 13 _ (by decide +kernel) az_ok_133_60
theorem az_ok_133_24 : az_okc 133 zX8_tells_24 = true := az_okp_ok 133 9 _ (by decide +kernel) az_ok_133_39
theorem az_ok_133_21 : az_okc 133 zX8_tells_21 = true := az_okp_ok 133 2 _ (by decide +kernel) az_ok_133_24
theorem az_ok_133_10 : az_okc 133 zX8_tells_10 = true := az_okp_ok 133 5 _ (by decide +kernel) az_ok_133_21
theorem az_ok_133_0 : az_okc 133 zX8_tells_0 = true := az_okp_ok 133 5 _ (by decide +kernel) az_ok_133_10
theorem az_ok_133 : az_okc 133 (az_cd 133) = true := az_ok_133_0
theorem az_ok_134_162 : az_okc 134 zX8_joyOf_162 = true := az_okp_ok 134 1 _ (by decide +kernel) rfl
theorem az_ok_134_160 : az_okc 134 zX8_joyOf_160 = true := az_okp_ok 134 1 _ (by decide +kernel) az_ok_134_162
theorem az_ok_134_147 : az_okc 134 zX8_joyOf_147 = true := az_okp_ok 134 7 _ (by decide +kernel) az_ok_134_160
theorem az_ok_134_134 : az_okc 134 zX8_joyOf_134 = true := az_okp_ok 134 7 _ (by decide +kernel) az_ok_134_147
theorem az_ok_134_133 : az_okc 134 zX8_joyOf_133 = true := az_okp_ok 134 1 _ (by decide +kernel) az_ok_134_134
theorem az_ok_134_131 : az_okc 134 zX8_joyOf_131 = true := az_okp_ok 134 1 _ (by decide +kernel) az_ok_134_133
theorem az_ok_134_114 : az_okc 134 zX8_joyOf_114 = true := az_okp_ok 134 10 _ (by decide +kernel) az_ok_134_131
theorem az_ok_134_105 : az_okc 134 zX8_joyOf_105 = true := az_okp_ok 134 4 _ (by decide +kernel) az_ok_134_114
theorem az_ok_134_104 : az_okc 134 zX8_joyOf_104 = true := az_okp_ok 134 1 _ (by decide +kernel) az_ok_134_105
theorem az_ok_134_70 : az_okc 134 zX8_joyOf_70 = true := az_okp_ok 134 18 _ (by decide +kernel) az_ok_134_104
theorem az_ok_134_62 : az_okc 134 zX8_joyOf_62 = true := az_okp_ok 134 5 _ (by decide +kernel) az_ok_134_70
theorem az_ok_134_60 : az_okc 134 zX8_joyOf_60 = true := az_okp_ok 134 1 _ (by decide +kernel) az_ok_134_62
theorem az_ok_134_41 : az_okc 134 zX8_joyOf_41 = true := az_okp_ok 134 11 _ (by decide +kernel) az_ok_134_60
theorem az_ok_134_0 : az_okc 134 zX8_joyOf_0 = true := az_okp_ok 134 26 _ (by decide +kernel) az_ok_134_41
theorem az_ok_134 : az_okc 134 (az_cd 134) = true := az_ok_134_0
theorem az_ok_135 : az_okc 135 (az_cd 135) = true := by decide +kernel
theorem az_ok_136 : az_okc 136 (az_cd 136) = true := by decide +kernel
theorem az_ok_137_122 : az_okc 137 zX3_bestOf_122 = true := az_okp_ok 137 8 _ (by decide +kernel) rfl
theorem az_ok_137_113 : az_okc 137 zX3_bestOf_113 = true := az_okp_ok 137 4 _ (by decide +kernel) az_ok_137_122
theorem az_ok_137_112 : az_okc 137 zX3_bestOf_112 = true := az_okp_ok 137 1 _ (by decide +kernel) az_ok_137_113
theorem az_ok_137_89 : az_okc 137 zX3_bestOf_89 = true := az_okp_ok 137 11 _ (by decide +kernel) az_ok_137_112
theorem az_ok_137_88 : az_okc 137 zX3_bestOf_88 = true := az_okp_ok 137 1 _ (by decide +kernel) az_ok_137_89
theorem az_ok_137_18 : az_okc 137 zX3_bestOf_18 = true := az_okp_ok 137 38 _ (by decide +kernel) az_ok_137_88
theorem az_ok_137_0 : az_okc 137 zX3_bestOf_0 = true := az_okp_ok 137 12 _ (by decide +kernel) az_ok_137_18
theorem az_ok_137 : az_okc 137 (az_cd 137) = true := az_ok_137_0
theorem az_ok_138 : az_okc 138 (az_cd 138) = true := by decide +kernel
theorem az_ok_139 : az_okc 139 (az_cd 139) = true := by decide +kernel
theorem az_ok_140 : az_okc 140 (az_cd 140) = true := by decide +kernel
theorem az_ok_141 : az_okc 141 (az_cd 141) = true := by decide +kernel
theorem az_ok_142 : az_okc 142 (az_cd 142) = true := by decide +kernel
theorem az_ok_143 : az_okc 143 (az_cd 143) = true := by decide +kernel
theorem az_ok_144 : az_okc 144 (az_cd 144) = true := by decide +kernel
theorem az_ok_145 : az_okc 145 (az_cd 145) = true := by decide +kernel
theorem az_ok_146 : az_okc 146 (az_cd 146) = true := by decide +kernel
theorem az_ok_147 : az_okc 147 (az_cd 147) = true := by decide +kernel
theorem az_ok_148 : az_okc 148 (az_cd 148) = true := by decide +kernel
theorem az_ok_149 : az_okc 149 (az_cd 149) = true := by decide +kernel
theorem az_ok_150 : az_okc 150 (az_cd 150) = true := by decide +kernel
theorem az_ok_151 : az_okc 151 (az_cd 151) = true := by decide +kernel
theorem az_ok_152 : az_okc 152 (az_cd 152) = true := by decide +kernel
theorem az_ok_153 : az_okc 153 (az_cd 153) = true := by decide +kernel
theorem az_ok_154 : az_okc 154 (az_cd 154) = true := by decide +kernel
theorem az_ok_155 : az_okc 155 (az_cd 155) = true := by decide +kernel
theorem az_ok_156 : az_okc 156 (az_cd 156) = true := by decide +kernel
theorem az_ok_157 : az_okc 157 (az_cd 157) = true := by decide +kernel
theorem az_ok_158_280 : az_okc 158 zX8_pact_280 = true := az_okp_ok 158 1 _ (by decide +kernel) rfl
theorem az_ok_158_279 : az_okc 158 zX8_pact_279 = true := az_okp_ok 158 1 _ (by decide +kernel) az_ok_158_280
theorem az_ok_158_270 : az_okc 158 zX8_pact_270 = true := az_okp_ok 158 4 _ (by decide +kernel) az_ok_158_279
theorem az_ok_158_254 : az_okc 158 zX8_pact_254 = true := az_okp_ok 158 8 _ (by decide +kernel) az_ok_158_270
theorem az_ok_158_253 : az_okc 158 zX8_pact_253 = true := az_okp_ok 158 1 _ (by decide +kernel) az_ok_158_254
theorem az_ok_158_216 : az_okc 158 zX8_pact_216 = true := az_okp_ok 158 20 _ (by decide +kernel) az_ok_158_253
theorem az_ok_158_215 : az_okc 158 zX8_pact_215 = true := az_okp_ok 158 1 _ (by decide +kernel) az_ok_158_216
theorem az_ok_158_181 : az_okc 158 zX8_pact_181 = true := az_okp_ok 158 17 _ (by decide +kernel) az_ok_158_215
theorem az_ok_158_161 : az_okc 158 zX8_pact_161 = true := az_okp_ok 158 12 _ (by decide +kernel) az_ok_158_181
theorem az_ok_158_160 : az_okc 158 zX8_pact_160 = true := az_okp_ok 158 1 _ (by decide +kernel) az_ok_158_161
theorem az_ok_158_158 : az_okc 158 zX8_pact_158 = true := az_okp_ok 158 1 _ (by decide +kernel) az_ok_158_160
theorem az_ok_158_148 : az_okc 158 zX8_pact_148 = true := az_okp_ok 158 4 _ (by decide +kernel) az_ok_158_158
theorem az_ok_158_135 : az_okc 158 zX8_pact_135 = true := az_okp_ok 158 5 _ (by decide +kernel) az_ok_158_148
theorem az_ok_158_127 : az_okc 158 zX8_pact_127 = true := az_okp_ok 158 3 _ (by decide +kernel) az_ok_158_135
theorem az_ok_158_126 : az_okc 158 zX8_pact_126 = true := az_okp_ok 158 1 _ (by decide +kernel) az_ok_158_127
theorem az_ok_158_74 : az_okc 158 zX8_pact_74 = true := az_okp_ok 158 27 _ (by decide +kernel) az_ok_158_126
theorem az_ok_158_54 : az_okc 158 zX8_pact_54 = true := az_okp_ok 158 12 _ (by decide +kernel) az_ok_158_74
theorem az_ok_158_39 : az_okc 158 zX8_pact_39 = true := az_okp_ok 158 7 _ (by decide +kernel) az_ok_158_54
theorem az_ok_158_38 : az_okc 158 zX8_pact_38 = true := az_okp_ok 158 1 _ (by decide +kernel) az_ok_158_39
theorem az_ok_158_0 : az_okc 158 zX8_pact_0 = true := az_okp_ok 158 21 _ (by decide +kernel) az_ok_158_38
theorem az_ok_158 : az_okc 158 (az_cd 158) = true := az_ok_158_0
theorem az_ok_159_110 : az_okc 159 zX3_meanAlone_110 = true := az_okp_ok 159 2 _ (by decide +kernel) rfl
theorem az_ok_159_9 : az_okc 159 zX3_meanAlone_9 = true := az_okp_ok 159 60 _ (by decide +kernel) az_ok_159_110
theorem az_ok_159_0 : az_okc 159 zX3_meanAlone_0 = true := az_okp_ok 159 6 _ (by decide +kernel) az_ok_159_9
theorem az_ok_159 : az_okc 159 (az_cd 159) = true := az_ok_159_0
theorem az_ok_160 : az_okc 160 (az_cd 160) = true := by decide +kernel
theorem az_ok_161 : az_okc 161 (az_cd 161) = true := by decide +kernel
theorem az_ok_162_261 : az_okc 162 zX8_alone_261 = true := az_okp_ok 162 2 _ (by decide +kernel) rfl
theorem az_ok_162_256 : az_okc 162 zX8_alone_256 = true := az_okp_ok 162 3 _ (by decide +kernel) az_ok_162_261
theorem az_ok_162_244 : az_okc 162 zX8_alone_244 = true := az_okp_ok 162 6 _ (by decide +kernel) az_ok_162_256
theorem az_ok_162_219 : az_okc 162 zX8_alone_219 = true := az_okp_ok 162 13 _ (by decide +kernel) az_ok_162_244
theorem az_ok_162_211 : az_okc 162 zX8_alone_211 = true := az_okp_ok 162 4 _ (by decide +kernel) az_ok_162_219
theorem az_ok_162_193 : az_okc 162 zX8_alone_193 = true := az_okp_ok 162 9 _ (by decide +kernel) az_ok_162_211
theorem az_ok_162_192 : az_okc 162 zX8_alone_192 = true := az_okp_ok 162 1 _ (by decide +kernel) az_ok_162_193
theorem az_ok_162_174 : az_okc 162 zX8_alone_174 = true := az_okp_ok 162 11 _ (by decide +kernel) az_ok_162_192
theorem az_ok_162_173 : az_okc 162 zX8_alone_173 = true := az_okp_ok 162 1 _ (by decide +kernel) az_ok_162_174
theorem az_ok_162_110 : az_okc 162 zX8_alone_110 = true := az_okp_ok 162 40 _ (by decide +kernel) az_ok_162_173
theorem az_ok_162_109 : az_okc 162 zX8_alone_109 = true := az_okp_ok 162 1 _ (by decide +kernel) az_ok_162_110
theorem az_ok_162_75 : az_okc 162 zX8_alone_75 = true := az_okp_ok 162 19 _ (by decide +kernel) az_ok_162_109
theorem az_ok_162_66 : az_okc 162 zX8_alone_66 = true := az_okp_ok 162 6 _ (by decide +kernel) az_ok_162_75
theorem az_ok_162_46 : az_okc 162 zX8_alone_46 = true := az_okp_ok 162 10 _ (by decide +kernel) az_ok_162_66
theorem az_ok_162_43 : az_okc 162 zX8_alone_43 = true := az_okp_ok 162 2 _ (by decide +kernel) az_ok_162_46
theorem az_ok_162_40 : az_okc 162 zX8_alone_40 = true := az_okp_ok 162 2 _ (by decide +kernel) az_ok_162_43
theorem az_ok_162_10 : az_okc 162 zX8_alone_10 = true := az_okp_ok 162 16 _ (by decide +kernel) az_ok_162_40
theorem az_ok_162_0 : az_okc 162 zX8_alone_0 = true := az_okp_ok 162 5 _ (by decide +kernel) az_ok_162_10
theorem az_ok_162 : az_okc 162 (az_cd 162) = true := az_ok_162_0
theorem az_ok_163 : az_okc 163 (az_cd 163) = true := by decide +kernel
theorem az_ok_164 : az_okc 164 (az_cd 164) = true := by decide +kernel
theorem az_ok_165 : az_okc 165 (az_cd 165) = true := by decide +kernel
theorem az_ok_166 : az_okc 166 (az_cd 166) = true := by decide +kernel
theorem az_ok_167_187 : az_okc 167 zX8_explained_187 = true := az_okp_ok 167 1 _ (by decide +kernel) rfl
theorem az_ok_167_185 : az_okc 167 zX8_explained_185 = true := az_okp_ok 167 1 _ (by decide +kernel) az_ok_167_187
theorem az_ok_167_176 : az_okc 167 zX8_explained_176 = true := az_okp_ok 167 4 _ (by decide +kernel) az_ok_167_185
theorem az_ok_167_167 : az_okc 167 zX8_explained_167 = true := az_okp_ok 167 4 _ (by decide +kernel) az_ok_167_176
theorem az_ok_167_166 : az_okc 167 zX8_explained_166 = true := az_okp_ok 167 1 _ (by decide +kernel) az_ok_167_167
theorem az_ok_167_155 : az_okc 167 zX8_explained_155 = true := az_okp_ok 167 5 _ (by decide +kernel) az_ok_167_166
theorem az_ok_167_153 : az_okc 167 zX8_explained_153 = true := az_okp_ok 167 1 _ (by decide +kernel) az_ok_167_155
theorem az_ok_167_151 : az_okc 167 zX8_explained_151 = true := az_okp_ok 167 1 _ (by decide +kernel) az_ok_167_153
theorem az_ok_167_142 : az_okc 167 zX8_explained_142 = true := az_okp_ok 167 5 _ (by decide +kernel) az_ok_167_151
theorem az_ok_167_117 : az_okc 167 zX8_explained_117 = true := az_okp_ok 167 12 _ (by decide +kernel) az_ok_167_142
theorem az_ok_167_109 : az_okc 167 zX8_explained_109 = true := az_okp_ok 167 3 _ (by decide +kernel) az_ok_167_117
theorem az_ok_167_108 : az_okc 167 zX8_explained_108 = true := az_okp_ok 167 1 _ (by decide +kernel) az_ok_167_109
theorem az_ok_167_67 : az_okc 167 zX8_explained_67 = true := az_okp_ok 167 22 _ (by decide +kernel) az_ok_167_108
theorem az_ok_167_42 : az_okc 167 zX8_explained_42 = true := az_okp_ok 167 13 _ (by decide +kernel) az_ok_167_67
theorem az_ok_167_32 : az_okc 167 zX8_explained_32 = true := az_okp_ok 167 6 _ (by decide +kernel) az_ok_167_42
theorem az_ok_167_20 : az_okc 167 zX8_explained_20 = true := az_okp_ok 167 7 _ (by decide +kernel) az_ok_167_32
theorem az_ok_167_19 : az_okc 167 zX8_explained_19 = true := az_okp_ok 167 1 _ (by decide +kernel) az_ok_167_20
theorem az_ok_167_15 : az_okc 167 zX8_explained_15 = true := az_okp_ok 167 2 _ (by decide +kernel) az_ok_167_19
theorem az_ok_167_0 : az_okc 167 zX8_explained_0 = true := az_okp_ok 167 9 _ (by decide +kernel) az_ok_167_15
theorem az_ok_167 : az_okc 167 (az_cd 167) = true := az_ok_167_0
theorem az_ok_168 : az_okc 168 (az_cd 168) = true := by decide +kernel
theorem az_ok_169 : az_okc 169 (az_cd 169) = true := by decide +kernel
theorem az_ok_170 : az_okc 170 (az_cd 170) = true := by decide +kernel
theorem az_ok_171 : az_okc 171 (az_cd 171) = true := by decide +kernel
theorem az_ok_172_184 : az_okc 172 zX8_laws_184 = true := az_okp_ok 172 1 _ (by decide +kernel) rfl
theorem az_ok_172_182 : az_okc 172 zX8_laws_182 = true := az_okp_ok 172 1 _ (by decide +kernel) az_ok_172_184
theorem az_ok_172_173 : az_okc 172 zX8_laws_173 = true := az_okp_ok 172 4 _ (by decide +kernel) az_ok_172_182
theorem az_ok_172_164 : az_okc 172 zX8_laws_164 = true := az_okp_ok 172 4 _ (by decide +kernel) az_ok_172_173
theorem az_ok_172_163 : az_okc 172 zX8_laws_163 = true := az_okp_ok 172 1 _ (by decide +kernel) az_ok_172_164
theorem az_ok_172_147 : az_okc 172 zX8_laws_147 = true := az_okp_ok 172 8 _ (by decide +kernel) az_ok_172_163
theorem az_ok_172_136 : az_okc 172 zX8_laws_136 = true := az_okp_ok 172 6 _ (by decide +kernel) az_ok_172_147
theorem az_ok_172_121 : az_okc 172 zX8_laws_121 = true := az_okp_ok 172 7 _ (by decide +kernel) az_ok_172_136
theorem az_ok_172_113 : az_okc 172 zX8_laws_113 = true := az_okp_ok 172 3 _ (by decide +kernel) az_ok_172_121
theorem az_ok_172_111 : az_okc 172 zX8_laws_111 = true := az_okp_ok 172 1 _ (by decide +kernel) az_ok_172_113
theorem az_ok_172_106 : az_okc 172 zX8_laws_106 = true := az_okp_ok 172 2 _ (by decide +kernel) az_ok_172_111
theorem az_ok_172_92 : az_okc 172 zX8_laws_92 = true := az_okp_ok 172 6 _ (by decide +kernel) az_ok_172_106
theorem az_ok_172_90 : az_okc 172 zX8_laws_90 = true := az_okp_ok 172 1 _ (by decide +kernel) az_ok_172_92
theorem az_ok_172_85 : az_okc 172 zX8_laws_85 = true := az_okp_ok 172 2 _ (by decide +kernel) az_ok_172_90
theorem az_ok_172_54 : az_okc 172 zX8_laws_54 = true := az_okp_ok 172 15 _ (by decide +kernel) az_ok_172_85
theorem az_ok_172_33 : az_okc 172 zX8_laws_33 = true := az_okp_ok 172 12 _ (by decide +kernel) az_ok_172_54
theorem az_ok_172_21 : az_okc 172 zX8_laws_21 = true := az_okp_ok 172 8 _ (by decide +kernel) az_ok_172_33
theorem az_ok_172_0 : az_okc 172 zX8_laws_0 = true := az_okp_ok 172 14 _ (by decide +kernel) az_ok_172_21
theorem az_ok_172 : az_okc 172 (az_cd 172) = true := az_ok_172_0
theorem az_ok_173_107 : az_okc 173 zX3_ownersPrice_107 = true := az_okp_ok 173 2 _ (by decide +kernel) rfl
theorem az_ok_173_101 : az_okc 173 zX3_ownersPrice_101 = true := az_okp_ok 173 2 _ (by decide +kernel) az_ok_173_107
theorem az_ok_173_73 : az_okc 173 zX3_ownersPrice_73 = true := az_okp_ok 173 16 _ (by decide +kernel) az_ok_173_101
theorem az_ok_173_51 : az_okc 173 zX3_ownersPrice_51 = true := az_okp_ok 173 11 _ (by decide +kernel) az_ok_173_73
theorem az_ok_173_26 : az_okc 173 zX3_ownersPrice_26 = true := az_okp_ok 173 14 _ (by decide +kernel) az_ok_173_51
theorem az_ok_173_0 : az_okc 173 zX3_ownersPrice_0 = true := az_okp_ok 173 16 _ (by decide +kernel) az_ok_173_26
theorem az_ok_173 : az_okc 173 (az_cd 173) = true := az_ok_173_0
theorem az_ok_174 : az_okc 174 (az_cd 174) = true := by decide +kernel
theorem az_ok_175_113 : az_okc 175 zX8_owner_113 = true := az_okp_ok 175 1 _ (by decide +kernel) rfl
theorem az_ok_175_111 : az_okc 175 zX8_owner_111 = true := az_okp_ok 175 1 _ (by decide +kernel) az_ok_175_113
theorem az_ok_175_102 : az_okc 175 zX8_owner_102 = true := az_okp_ok 175 4 _ (by decide +kernel) az_ok_175_111
theorem az_ok_175_96 : az_okc 175 zX8_owner_96 = true := az_okp_ok 175 2 _ (by decide +kernel) az_ok_175_102
theorem az_ok_175_71 : az_okc 175 zX8_owner_71 = true := az_okp_ok 175 12 _ (by decide +kernel) az_ok_175_96
theorem az_ok_175_49 : az_okc 175 zX8_owner_49 = true := az_okp_ok 175 10 _ (by decide +kernel) az_ok_175_71
theorem az_ok_175_30 : az_okc 175 zX8_owner_30 = true := az_okp_ok 175 11 _ (by decide +kernel) az_ok_175_49
theorem az_ok_175_21 : az_okc 175 zX8_owner_21 = true := az_okp_ok 175 6 _ (by decide +kernel) az_ok_175_30
theorem az_ok_175_0 : az_okc 175 zX8_owner_0 = true := az_okp_ok 175 14 _ (by decide +kernel) az_ok_175_21
theorem az_ok_175 : az_okc 175 (az_cd 175) = true := az_ok_175_0
theorem az_ok_176 : az_okc 176 (az_cd 176) = true := by decide +kernel
theorem az_ok_177 : az_okc 177 (az_cd 177) = true := by decide +kernel
theorem az_ok_178 : az_okc 178 (az_cd 178) = true := by decide +kernel
theorem az_ok_179 : az_okc 179 (az_cd 179) = true := by decide +kernel
theorem az_ok_180 : az_okc 180 (az_cd 180) = true := by decide +kernel
theorem az_ok_181 : az_okc 181 (az_cd 181) = true := by decide +kernel
theorem az_ok_182 : az_okc 182 (az_cd 182) = true := by decide +kernel
theorem az_ok_183 : az_okc 183 (az_cd 183) = true := by decide +kernel
theorem az_ok_184 : az_okc 184 (az_cd 184) = true := by decide +kernel
theorem az_ok_185 : az_okc 185 (az_cd 185) = true := by decide +kernel
theorem az_ok_186 : az_okc 186 (az_cd 186) = true := by decide +kernel
theorem az_ok_187 : az_okc 187 (az_cd 187) = true := by decide +kernel
theorem az_ok_188 : az_okc 188 (az_cd 188) = true := by decide +kernel
theorem az_ok_189_162 : az_okc 189 zX0_markAs0_162 = true := az_okp_ok 189 5 _ (by decide +kernel) rfl
theorem az_ok_189_150 : az_okc 189 zX0_markAs0_150 = true := az_okp_ok 189 9 _ (by decide +kernel) az_ok_189_162
theorem az_ok_189_111 : az_okc 189 zX0_markAs0_111 = true := az_okp_ok 189 26 _ (by decide +kernel) az_ok_189_150
theorem az_ok_189_89 : az_okc 189 zX0_markAs0_89 = true := az_okp_ok 189 14 _ (by decide +kernel) az_ok_189_111
theorem az_ok_189_69 : az_okc 189 zX0_markAs0_69 = true := az_okp_ok 189 14 _ (by decide +kernel) az_ok_189_89
theorem az_ok_189_44 : az_okc 189 zX0_markAs0_44 = true := az_okp_ok 189 17 _ (by decide +kernel) az_ok_189_69
theorem az_ok_189_9 : az_okc 189 zX0_markAs0_9 = true := az_okp_ok 189 2 _ (by decide +kernel) az_ok_189_44
theorem az_ok_189_0 : az_okc 189 zX0_markAs0_0 = true := az_okp_ok 189 5 _ (by decide +kernel) az_ok_189_9
theorem az_ok_189 : az_okc 189 (az_cd 189) = true := az_ok_189_0
theorem az_ok_190_155 : az_okc 190 zX0_sizeAs0_155 = true := az_okp_ok 190 8 _ (by decide +kernel) rfl
theorem az_ok_190_143 : az_okc 190 zX0_sizeAs0_143 = true := az_okp_ok 190 9 _ (by decide +kernel) az_ok_190_155
theorem az_ok_190_123 : az_okc 190 zX0_sizeAs0_123 = true := az_okp_ok 190 14 _ (by decide +kernel) az_ok_190_143
theorem az_ok_190_102 : az_okc 190 zX0_sizeAs0_102 = true := az_okp_ok 190 14 _ (by decide +kernel) az_ok_190_123
theorem az_ok_190_83 : az_okc 190 zX0_sizeAs0_83 = true := az_okp_ok 190 13 _ (by decide +kernel) az_ok_190_102
theorem az_ok_190_44 : az_okc 190 zX0_sizeAs0_44 = true := az_okp_ok 190 26 _ (by decide +kernel) az_ok_190_83
theorem az_ok_190_9 : az_okc 190 zX0_sizeAs0_9 = true := az_okp_ok 190 2 _ (by decide +kernel) az_ok_190_44
theorem az_ok_190_0 : az_okc 190 zX0_sizeAs0_0 = true := az_okp_ok 190 5 _ (by decide +kernel) az_ok_190_9
theorem az_ok_190 : az_okc 190 (az_cd 190) = true := az_ok_190_0
theorem az_ok_191_162 : az_okc 191 zX0_markAs1_162 = true := az_okp_ok 191 5 _ (by decide +kernel) rfl
theorem az_ok_191_150 : az_okc 191 zX0_markAs1_150 = true := az_okp_ok 191 9 _ (by decide +kernel) az_ok_191_162
theorem az_ok_191_111 : az_okc 191 zX0_markAs1_111 = true := az_okp_ok 191 26 _ (by decide +kernel) az_ok_191_150
theorem az_ok_191_89 : az_okc 191 zX0_markAs1_89 = true := az_okp_ok 191 14 _ (by decide +kernel) az_ok_191_111
theorem az_ok_191_69 : az_okc 191 zX0_markAs1_69 = true := az_okp_ok 191 14 _ (by decide +kernel) az_ok_191_89
theorem az_ok_191_44 : az_okc 191 zX0_markAs1_44 = true := az_okp_ok 191 17 _ (by decide +kernel) az_ok_191_69
theorem az_ok_191_9 : az_okc 191 zX0_markAs1_9 = true := az_okp_ok 191 2 _ (by decide +kernel) az_ok_191_44
theorem az_ok_191_0 : az_okc 191 zX0_markAs1_0 = true := az_okp_ok 191 5 _ (by decide +kernel) az_ok_191_9
theorem az_ok_191 : az_okc 191 (az_cd 191) = true := az_ok_191_0
theorem az_ok_192_155 : az_okc 192 zX0_sizeAs1_155 = true := az_okp_ok 192 8 _ (by decide +kernel) rfl
theorem az_ok_192_143 : az_okc 192 zX0_sizeAs1_143 = true := az_okp_ok 192 9 _ (by decide +kernel) az_ok_192_155
theorem az_ok_192_123 : az_okc 192 zX0_sizeAs1_123 = true := az_okp_ok 192 14 _ (by decide +kernel) az_ok_192_143
theorem az_ok_192_102 : az_okc 192 zX0_sizeAs1_102 = true := az_okp_ok 192 14 _ (by decide +kernel) az_ok_192_123
theorem az_ok_192_83 : az_okc 192 zX0_sizeAs1_83 = true := az_okp_ok 192 13 _ (by decide +kernel) az_ok_192_102
theorem az_ok_192_44 : az_okc 192 zX0_sizeAs1_44 = true := az_okp_ok 192 26 _ (by decide +kernel) az_ok_192_83
theorem az_ok_192_9 : az_okc 192 zX0_sizeAs1_9 = true := az_okp_ok 192 2 _ (by decide +kernel) az_ok_192_44
theorem az_ok_192_0 : az_okc 192 zX0_sizeAs1_0 = true := az_okp_ok 192 5 _ (by decide +kernel) az_ok_192_9
theorem az_ok_192 : az_okc 192 (az_cd 192) = true := az_ok_192_0
theorem az_ok_193_162 : az_okc 193 zX0_markAs2_162 = true := az_okp_ok 193 5 _ (by decide +kernel) rfl
theorem az_ok_193_150 : az_okc 193 zX0_markAs2_150 = true := az_okp_ok 193 9 _ (by decide +kernel) az_ok_193_162
theorem az_ok_193_111 : az_okc 193 zX0_markAs2_111 = true := az_okp_ok 193 26 _ (by decide +kernel) az_ok_193_150
theorem az_ok_193_89 : az_okc 193 zX0_markAs2_89 = true := az_okp_ok 193 14 _ (by decide +kernel) az_ok_193_111
theorem az_ok_193_69 : az_okc 193 zX0_markAs2_69 = true := az_okp_ok 193 14 _ (by decide +kernel) az_ok_193_89
theorem az_ok_193_44 : az_okc 193 zX0_markAs2_44 = true := az_okp_ok 193 17 _ (by decide +kernel) az_ok_193_69
theorem az_ok_193_9 : az_okc 193 zX0_markAs2_9 = true := az_okp_ok 193 2 _ (by decide +kernel) az_ok_193_44
theorem az_ok_193_0 : az_okc 193 zX0_markAs2_0 = true := az_okp_ok 193 5 _ (by decide +kernel) az_ok_193_9
theorem az_ok_193 : az_okc 193 (az_cd 193) = true := az_ok_193_0
theorem az_ok_194_155 : az_okc 194 zX0_sizeAs2_155 = true := az_okp_ok 194 8 _ (by decide +kernel) rfl
theorem az_ok_194_143 : az_okc 194 zX0_sizeAs2_143 = true := az_okp_ok 194 9 _ (by decide +kernel) az_ok_194_155
theorem az_ok_194_123 : az_okc 194 zX0_sizeAs2_123 = true := az_okp_ok 194 14 _ (by decide +kernel) az_ok_194_143
theorem az_ok_194_102 : az_okc 194 zX0_sizeAs2_102 = true := az_okp_ok 194 14 _ (by decide +kernel) az_ok_194_123
theorem az_ok_194_83 : az_okc 194 zX0_sizeAs2_83 = true := az_okp_ok 194 13 _ (by decide +kernel) az_ok_194_102
theorem az_ok_194_44 : az_okc 194 zX0_sizeAs2_44 = true := az_okp_ok 194 26 _ (by decide +kernel) az_ok_194_83
theorem az_ok_194_9 : az_okc 194 zX0_sizeAs2_9 = true := az_okp_ok 194 2 _ (by decide +kernel) az_ok_194_44
theorem az_ok_194_0 : az_okc 194 zX0_sizeAs2_0 = true := az_okp_ok 194 5 _ (by decide +kernel) az_ok_194_9
theorem az_ok_194 : az_okc 194 (az_cd 194) = true := az_ok_194_0
theorem az_ok_195_162 : az_okc 195 zX0_markAs3_162 = true := az_okp_ok 195 5 _ (by decide +kernel) rfl
theorem az_ok_195_150 : az_okc 195 zX0_markAs3_150 = true := az_okp_ok 195 9 _ (by decide +kernel) az_ok_195_162
theorem az_ok_195_111 : az_okc 195 zX0_markAs3_111 = true := az_okp_ok 195 26 _ (by decide +kernel) az_ok_195_150
theorem az_ok_195_89 : az_okc 195 zX0_markAs3_89 = true := az_okp_ok 195 14 _ (by decide +kernel) az_ok_195_111
theorem az_ok_195_69 : az_okc 195 zX0_markAs3_69 = true := az_okp_ok 195 14 _ (by decide +kernel) az_ok_195_89
theorem az_ok_195_44 : az_okc 195 zX0_markAs3_44 = true := az_okp_ok 195 17 _ (by decide +kernel) az_ok_195_69
theorem az_ok_195_9 : az_okc 195 zX0_markAs3_9 = true := az_okp_ok 195 2 _ (by decide +kernel) az_ok_195_44
theorem az_ok_195_0 : az_okc 195 zX0_markAs3_0 = true := az_okp_ok 195 5 _ (by decide +kernel) az_ok_195_9
theorem az_ok_195 : az_okc 195 (az_cd 195) = true := az_ok_195_0
theorem az_ok_196_155 : az_okc 196 zX0_sizeAs3_155 = true := az_okp_ok 196 8 _ (by decide +kernel) rfl
theorem az_ok_196_143 : az_okc 196 zX0_sizeAs3_143 = true := az_okp_ok 196 9 _ (by decide +kernel) az_ok_196_155
theorem az_ok_196_123 : az_okc 196 zX0_sizeAs3_123 = true := az_okp_ok 196 14 _ (by decide +kernel) az_ok_196_143
theorem az_ok_196_102 : az_okc 196 zX0_sizeAs3_102 = true := az_okp_ok 196 14 _ (by decide +kernel) az_ok_196_123
theorem az_ok_196_83 : az_okc 196 zX0_sizeAs3_83 = true := az_okp_ok 196 13 _ (by decide +kernel) az_ok_196_102
theorem az_ok_196_44 : az_okc 196 zX0_sizeAs3_44 = true := az_okp_ok 196 26 _ (by decide +kernel) az_ok_196_83
theorem az_ok_196_9 : az_okc 196 zX0_sizeAs3_9 = true := az_okp_ok 196 2 _ (by decide +kernel) az_ok_196_44
theorem az_ok_196_0 : az_okc 196 zX0_sizeAs3_0 = true := az_okp_ok 196 5 _ (by decide +kernel) az_ok_196_9
theorem az_ok_196 : az_okc 196 (az_cd 196) = true := az_ok_196_0
theorem az_ok_197_162 : az_okc 197 zX0_markAs4_162 = true := az_okp_ok 197 5 _ (by decide +kernel) rfl
theorem az_ok_197_150 : az_okc 197 zX0_markAs4_150 = true := az_okp_ok 197 9 _ (by decide +kernel) az_ok_197_162
theorem az_ok_197_111 : az_okc 197 zX0_markAs4_111 = true := az_okp_ok 197 26 _ (by decide +kernel) az_ok_197_150
theorem az_ok_197_89 : az_okc 197 zX0_markAs4_89 = true := az_okp_ok 197 14 _ (by decide +kernel) az_ok_197_111
theorem az_ok_197_69 : az_okc 197 zX0_markAs4_69 = true := az_okp_ok 197 14 _ (by decide +kernel) az_ok_197_89
theorem az_ok_197_44 : az_okc 197 zX0_markAs4_44 = true := az_okp_ok 197 17 _ (by decide +kernel) az_ok_197_69
theorem az_ok_197_9 : az_okc 197 zX0_markAs4_9 = true := az_okp_ok 197 2 _ (by decide +kernel) az_ok_197_44
theorem az_ok_197_0 : az_okc 197 zX0_markAs4_0 = true := az_okp_ok 197 5 _ (by decide +kernel) az_ok_197_9
theorem az_ok_197 : az_okc 197 (az_cd 197) = true := az_ok_197_0
theorem az_ok_198_155 : az_okc 198 zX0_sizeAs4_155 = true := az_okp_ok 198 8 _ (by decide +kernel) rfl
theorem az_ok_198_143 : az_okc 198 zX0_sizeAs4_143 = true := az_okp_ok 198 9 _ (by decide +kernel) az_ok_198_155
theorem az_ok_198_123 : az_okc 198 zX0_sizeAs4_123 = true := az_okp_ok 198 14 _ (by decide +kernel) az_ok_198_143
theorem az_ok_198_102 : az_okc 198 zX0_sizeAs4_102 = true := az_okp_ok 198 14 _ (by decide +kernel) az_ok_198_123
theorem az_ok_198_83 : az_okc 198 zX0_sizeAs4_83 = true := az_okp_ok 198 13 _ (by decide +kernel) az_ok_198_102
theorem az_ok_198_44 : az_okc 198 zX0_sizeAs4_44 = true := az_okp_ok 198 26 _ (by decide +kernel) az_ok_198_83
theorem az_ok_198_9 : az_okc 198 zX0_sizeAs4_9 = true := az_okp_ok 198 2 _ (by decide +kernel) az_ok_198_44
theorem az_ok_198_0 : az_okc 198 zX0_sizeAs4_0 = true := az_okp_ok 198 5 _ (by decide +kernel) az_ok_198_9
theorem az_ok_198 : az_okc 198 (az_cd 198) = true := az_ok_198_0
theorem az_ok_199_162 : az_okc 199 zX0_markAs5_162 = true := az_okp_ok 199 5 _ (by decide +kernel) rfl
theorem az_ok_199_150 : az_okc 199 zX0_markAs5_150 = true := az_okp_ok 199 9 _ (by decide +kernel) az_ok_199_162
theorem az_ok_199_111 : az_okc 199 zX0_markAs5_111 = true := az_okp_ok 199 26 _ (by decide +kernel) az_ok_199_150
theorem az_ok_199_89 : az_okc 199 zX0_markAs5_89 = true := az_okp_ok 199 14 _ (by decide +kernel) az_ok_199_111
theorem az_ok_199_69 : az_okc 199 zX0_markAs5_69 = true := az_okp_ok 199 14 _ (by decide +kernel) az_ok_199_89
theorem az_ok_199_44 : az_okc 199 zX0_markAs5_44 = true := az_okp_ok 199 17 _ (by decide +kernel) az_ok_199_69
theorem az_ok_199_9 : az_okc 199 zX0_markAs5_9 = true := az_okp_ok 199 2 _ (by decide +kernel) az_ok_199_44
theorem az_ok_199_0 : az_okc 199 zX0_markAs5_0 = true := az_okp_ok 199 5 _ (by decide +kernel) az_ok_199_9
theorem az_ok_199 : az_okc 199 (az_cd 199) = true := az_ok_199_0
theorem az_ok_200_155 : az_okc 200 zX0_sizeAs5_155 = true := az_okp_ok 200 8 _ (by decide +kernel) rfl
theorem az_ok_200_143 : az_okc 200 zX0_sizeAs5_143 = true := az_okp_ok 200 9 _ (by decide +kernel) az_ok_200_155
theorem az_ok_200_123 : az_okc 200 zX0_sizeAs5_123 = true := az_okp_ok 200 14 _ (by decide +kernel) az_ok_200_143
theorem az_ok_200_102 : az_okc 200 zX0_sizeAs5_102 = true := az_okp_ok 200 14 _ (by decide +kernel) az_ok_200_123
theorem az_ok_200_83 : az_okc 200 zX0_sizeAs5_83 = true := az_okp_ok 200 13 _ (by decide +kernel) az_ok_200_102
theorem az_ok_200_44 : az_okc 200 zX0_sizeAs5_44 = true := az_okp_ok 200 26 _ (by decide +kernel) az_ok_200_83
theorem az_ok_200_9 : az_okc 200 zX0_sizeAs5_9 = true := az_okp_ok 200 2 _ (by decide +kernel) az_ok_200_44
theorem az_ok_200_0 : az_okc 200 zX0_sizeAs5_0 = true := az_okp_ok 200 5 _ (by decide +kernel) az_ok_200_9
theorem az_ok_200 : az_okc 200 (az_cd 200) = true := az_ok_200_0
theorem az_ok_201_162 : az_okc 201 zX0_markAs6_162 = true := az_okp_ok 201 5 _ (by decide +kernel) rfl
theorem az_ok_201_150 : az_okc 201 zX0_markAs6_150 = true := az_okp_ok 201 9 _ (by decide +kernel) az_ok_201_162
theorem az_ok_201_111 : az_okc 201 zX0_markAs6_111 = true := az_okp_ok 201 26 _ (by decide +kernel) az_ok_201_150
theorem az_ok_201_89 : az_okc 201 zX0_markAs6_89 = true := az_okp_ok 201 14 _ (by decide +kernel) az_ok_201_111
theorem az_ok_201_69 : az_okc 201 zX0_markAs6_69 = true := az_okp_ok 201 14 _ (by decide +kernel) az_ok_201_89
theorem az_ok_201_44 : az_okc 201 zX0_markAs6_44 = true := az_okp_ok 201 17 _ (by decide +kernel) az_ok_201_69
theorem az_ok_201_9 : az_okc 201 zX0_markAs6_9 = true := az_okp_ok 201 2 _ (by decide +kernel) az_ok_201_44
theorem az_ok_201_0 : az_okc 201 zX0_markAs6_0 = true := az_okp_ok 201 5 _ (by decide +kernel) az_ok_201_9
theorem az_ok_201 : az_okc 201 (az_cd 201) = true := az_ok_201_0
theorem az_ok_202_155 : az_okc 202 zX0_sizeAs6_155 = true := az_okp_ok 202 8 _ (by decide +kernel) rfl
theorem az_ok_202_143 : az_okc 202 zX0_sizeAs6_143 = true := az_okp_ok 202 9 _ (by decide +kernel) az_ok_202_155
theorem az_ok_202_123 : az_okc 202 zX0_sizeAs6_123 = true := az_okp_ok 202 14 _ (by decide +kernel) az_ok_202_143
theorem az_ok_202_102 : az_okc 202 zX0_sizeAs6_102 = true := az_okp_ok 202 14 _ (by decide +kernel) az_ok_202_123
theorem az_ok_202_83 : az_okc 202 zX0_sizeAs6_83 = true := az_okp_ok 202 13 _ (by decide +kernel) az_ok_202_102
theorem az_ok_202_44 : az_okc 202 zX0_sizeAs6_44 = true := az_okp_ok 202 26 _ (by decide +kernel) az_ok_202_83
theorem az_ok_202_9 : az_okc 202 zX0_sizeAs6_9 = true := az_okp_ok 202 2 _ (by decide +kernel) az_ok_202_44
theorem az_ok_202_0 : az_okc 202 zX0_sizeAs6_0 = true := az_okp_ok 202 5 _ (by decide +kernel) az_ok_202_9
theorem az_ok_202 : az_okc 202 (az_cd 202) = true := az_ok_202_0
theorem az_ok_203 : az_okc 203 (az_cd 203) = true := by decide +kernel
theorem az_ok_204 : az_okc 204 (az_cd 204) = true := by decide +kernel
theorem az_ok_205 : az_okc 205 (az_cd 205) = true := by decide +kernel
theorem az_ok_206 : az_okc 206 (az_cd 206) = true := by decide +kernel
theorem az_ok_207 : az_okc 207 (az_cd 207) = true := by decide +kernel
theorem az_ok_208_111 : az_okc 208 zX8_ask_111 = true := az_okp_ok 208 9 _ (by decide +kernel) rfl
theorem az_ok_208_101 : az_okc 208 zX8_ask_101 = true := az_okp_ok 208 6 _ (by decide +kernel) az_ok_208_111
theorem az_ok_208_100 : az_okc 208 zX8_ask_100 = true := az_okp_ok 208 1 _ (by decide +kernel) az_ok_208_101
theorem az_ok_208_98 : az_okc 208 zX8_ask_98 = true := az_okp_ok 208 1 _ (by decide +kernel) az_ok_208_100
theorem az_ok_208_67 : az_okc 208 zX8_ask_67 = true := az_okp_ok 208 18 _ (by decide +kernel) az_ok_208_98
theorem az_ok_208_64 : az_okc 208 zX8_ask_64 = true := az_okp_ok 208 1 _ (by decide +kernel) az_ok_208_67
theorem az_ok_208_52 : az_okc 208 zX8_ask_52 = true := az_okp_ok 208 6 _ (by decide +kernel) az_ok_208_64
theorem az_ok_208_21 : az_okc 208 zX8_ask_21 = true := az_okp_ok 208 20 _ (by decide +kernel) az_ok_208_52
theorem az_ok_208_18 : az_okc 208 zX8_ask_18 = true := az_okp_ok 208 2 _ (by decide +kernel) az_ok_208_21
theorem az_ok_208_0 : az_okc 208 zX8_ask_0 = true := az_okp_ok 208 10 _ (by decide +kernel) az_ok_208_18
theorem az_ok_208 : az_okc 208 (az_cd 208) = true := az_ok_208_0
theorem az_ok_209 : az_okc 209 (az_cd 209) = true := by decide +kernel
theorem az_ok_210 : az_okc 210 (az_cd 210) = true := by decide +kernel
theorem az_ok_211 : az_okc 211 (az_cd 211) = true := by decide +kernel
theorem az_ok_212 : az_okc 212 (az_cd 212) = true := by decide +kernel
theorem az_ok_213 : az_okc 213 (az_cd 213) = true := by decide +kernel
theorem az_ok_214 : az_okc 214 (az_cd 214) = true := by decide +kernel
theorem az_ok_215_178 : az_okc 215 zX8_count_178 = true := az_okp_ok 215 2 _ (by decide +kernel) rfl
theorem az_ok_215_173 : az_okc 215 zX8_count_173 = true := az_okp_ok 215 3 _ (by decide +kernel) az_ok_215_178
theorem az_ok_215_170 : az_okc 215 zX8_count_170 = true := az_okp_ok 215 2 _ (by decide +kernel) az_ok_215_173
theorem az_ok_215_168 : az_okc 215 zX8_count_168 = true := az_okp_ok 215 2 _ (by decide +kernel) az_ok_215_170
theorem az_ok_215_163 : az_okc 215 zX8_count_163 = true := az_okp_ok 215 3 _ (by decide +kernel) az_ok_215_168
theorem az_ok_215_156 : az_okc 215 zX8_count_156 = true := az_okp_ok 215 5 _ (by decide +kernel) az_ok_215_163
theorem az_ok_215_149 : az_okc 215 zX8_count_149 = true := az_okp_ok 215 5 _ (by decide +kernel) az_ok_215_156
theorem az_ok_215_142 : az_okc 215 zX8_count_142 = true := az_okp_ok 215 5 _ (by decide +kernel) az_ok_215_149
theorem az_ok_215_140 : az_okc 215 zX8_count_140 = true := az_okp_ok 215 2 _ (by decide +kernel) az_ok_215_142
theorem az_ok_215_91 : az_okc 215 zX8_count_91 = true := az_okp_ok 215 2 _ (by decide +kernel) az_ok_215_140
theorem az_ok_215_44 : az_okc 215 zX8_count_44 = true := az_okp_ok 215 28 _ (by decide +kernel) az_ok_215_91
theorem az_ok_215_41 : az_okc 215 zX8_count_41 = true := az_okp_ok 215 2 _ (by decide +kernel) az_ok_215_44
theorem az_ok_215_33 : az_okc 215 zX8_count_33 = true := az_okp_ok 215 4 _ (by decide +kernel) az_ok_215_41
theorem az_ok_215_32 : az_okc 215 zX8_count_32 = true := az_okp_ok 215 1 _ (by decide +kernel) az_ok_215_33
theorem az_ok_215_10 : az_okc 215 zX8_count_10 = true := az_okp_ok 215 11 _ (by decide +kernel) az_ok_215_32
theorem az_ok_215_0 : az_okc 215 zX8_count_0 = true := az_okp_ok 215 8 _ (by decide +kernel) az_ok_215_10
theorem az_ok_215 : az_okc 215 (az_cd 215) = true := az_ok_215_0
theorem az_ok_216 : az_okc 216 (az_cd 216) = true := by decide +kernel
theorem az_ok_217 : az_okc 217 (az_cd 217) = true := by decide +kernel
theorem az_ok_218_1212 : az_okc 218 zL_law_1212 = true := az_okp_ok 218 2 _ (by decide +kernel) rfl
theorem az_ok_218_1206 : az_okc 218 zL_law_1206 = true := az_okp_ok 218 2 _ (by decide +kernel) az_ok_218_1212
theorem az_ok_218_1193 : az_okc 218 zL_law_1193 = true := az_okp_ok 218 7 _ (by decide +kernel) az_ok_218_1206
theorem az_ok_218_1170 : az_okc 218 zL_law_1170 = true := az_okp_ok 218 17 _ (by decide +kernel) az_ok_218_1193
theorem az_ok_218_1147 : az_okc 218 zL_law_1147 = true := az_okp_ok 218 17 _ (by decide +kernel) az_ok_218_1170
theorem az_ok_218_1114 : az_okc 218 zL_law_1114 = true := az_okp_ok 218 27 _ (by decide +kernel) az_ok_218_1147
theorem az_ok_218_1081 : az_okc 218 zL_law_1081 = true := az_okp_ok 218 27 _ (by decide +kernel) az_ok_218_1114
theorem az_ok_218_1058 : az_okc 218 zL_law_1058 = true := az_okp_ok 218 17 _ (by decide +kernel) az_ok_218_1081
theorem az_ok_218_1035 : az_okc 218 zL_law_1035 = true := az_okp_ok 218 17 _ (by decide +kernel) az_ok_218_1058
theorem az_ok_218_1012 : az_okc 218 zL_law_1012 = true := az_okp_ok 218 17 _ (by decide +kernel) az_ok_218_1035
theorem az_ok_218_979 : az_okc 218 zL_law_979 = true := az_okp_ok 218 27 _ (by decide +kernel) az_ok_218_1012
theorem az_ok_218_946 : az_okc 218 zL_law_946 = true := az_okp_ok 218 27 _ (by decide +kernel) az_ok_218_979
theorem az_ok_218_913 : az_okc 218 zL_law_913 = true := az_okp_ok 218 27 _ (by decide +kernel) az_ok_218_946
theorem az_ok_218_880 : az_okc 218 zL_law_880 = true := az_okp_ok 218 27 _ (by decide +kernel) az_ok_218_913
theorem az_ok_218_837 : az_okc 218 zL_law_837 = true := az_okp_ok 218 37 _ (by decide +kernel) az_ok_218_880
theorem az_ok_218_784 : az_okc 218 zL_law_784 = true := az_okp_ok 218 47 _ (by decide +kernel) az_ok_218_837
theorem az_ok_218_761 : az_okc 218 zL_law_761 = true := az_okp_ok 218 17 _ (by decide +kernel) az_ok_218_784
theorem az_ok_218_728 : az_okc 218 zL_law_728 = true := az_okp_ok 218 27 _ (by decide +kernel) az_ok_218_761
theorem az_ok_218_695 : az_okc 218 zL_law_695 = true := az_okp_ok 218 27 _ (by decide +kernel) az_ok_218_728
theorem az_ok_218_652 : az_okc 218 zL_law_652 = true := az_okp_ok 218 37 _ (by decide +kernel) az_ok_218_695
theorem az_ok_218_629 : az_okc 218 zL_law_629 = true := az_okp_ok 218 17 _ (by decide +kernel) az_ok_218_652
theorem az_ok_218_596 : az_okc 218 zL_law_596 = true := az_okp_ok 218 27 _ (by decide +kernel) az_ok_218_629
theorem az_ok_218_583 : az_okc 218 zL_law_583 = true := az_okp_ok 218 7 _ (by decide +kernel) az_ok_218_596
theorem az_ok_218_570 : az_okc 218 zL_law_570 = true := az_okp_ok 218 7 _ (by decide +kernel) az_ok_218_583
theorem az_ok_218_537 : az_okc 218 zL_law_537 = true := az_okp_ok 218 27 _ (by decide +kernel) az_ok_218_570
theorem az_ok_218_504 : az_okc 218 zL_law_504 = true := az_okp_ok 218 27 _ (by decide +kernel) az_ok_218_537
theorem az_ok_218_481 : az_okc 218 zL_law_481 = true := az_okp_ok 218 17 _ (by decide +kernel) az_ok_218_504
theorem az_ok_218_458 : az_okc 218 zL_law_458 = true := az_okp_ok 218 17 _ (by decide +kernel) az_ok_218_481
theorem az_ok_218_445 : az_okc 218 zL_law_445 = true := az_okp_ok 218 7 _ (by decide +kernel) az_ok_218_458
theorem az_ok_218_432 : az_okc 218 zL_law_432 = true := az_okp_ok 218 7 _ (by decide +kernel) az_ok_218_445
theorem az_ok_218_419 : az_okc 218 zL_law_419 = true := az_okp_ok 218 7 _ (by decide +kernel) az_ok_218_432
theorem az_ok_218_356 : az_okc 218 zL_law_356 = true := az_okp_ok 218 51 _ (by decide +kernel) az_ok_218_419
theorem az_ok_218_333 : az_okc 218 zL_law_333 = true := az_okp_ok 218 17 _ (by decide +kernel) az_ok_218_356
theorem az_ok_218_270 : az_okc 218 zL_law_270 = true := az_okp_ok 218 57 _ (by decide +kernel) az_ok_218_333
theorem az_ok_218_227 : az_okc 218 zL_law_227 = true := az_okp_ok 218 37 _ (by decide +kernel) az_ok_218_270
theorem az_ok_218_184 : az_okc 218 zL_law_184 = true := az_okp_ok 218 37 _ (by decide +kernel) az_ok_218_227
theorem az_ok_218_18 : az_okc 218 zL_law_18 = true := az_okp_ok 218 12 _ (by decide +kernel) az_ok_218_184
theorem az_ok_218_0 : az_okc 218 zL_law_0 = true := az_okp_ok 218 10 _ (by decide +kernel) az_ok_218_18
theorem az_ok_218 : az_okc 218 (az_cd 218) = true := az_ok_218_0
theorem az_oks : ∀ M, az_okc M (az_cd M) = true
  | 0 => az_ok_0
  | 1 => az_ok_1
  | 2 => az_ok_2
  | 3 => az_ok_3
  | 4 => az_ok_4
  | 5 => az_ok_5
  | 6 => az_ok_6
  | 7 => az_ok_7
  | 8 => az_ok_8
  | 9 => az_ok_9
  | 10 => az_ok_10
  | 11 => az_ok_11
  | 12 => az_ok_12
  | 13 => az_ok_13
  | 14 => az_ok_14
  | 15 => az_ok_15
  | 16 => az_ok_16
  | 17 => az_ok_17
  | 18 => az_ok_18
  | 19 => az_ok_19
  | 20 => az_ok_20
  | 21 => az_ok_21
  | 22 => az_ok_22
  | 23 => az_ok_23
  | 24 => az_ok_24
  | 25 => az_ok_25
  | 26 => az_ok_26
  | 27 => az_ok_27
  | 28 => az_ok_28
  | 29 => az_ok_29
  | 30 => az_ok_30
  | 31 => az_ok_31
  | 32 => az_ok_32
  | 33 => az_ok_33
  | 34 => az_ok_34
  | 35 => az_ok_35
  | 36 => az_ok_36
  | 37 => az_ok_37
  | 38 => az_ok_38
  | 39 => az_ok_39
  | 40 => az_ok_40
  | 41 => az_ok_41
  | 42 => az_ok_42
  | 43 => az_ok_43
  | 44 => az_ok_44
  | 45 => az_ok_45
  | 46 => az_ok_46
  | 47 => az_ok_47
  | 48 => az_ok_48
  | 49 => az_ok_49
  | 50 => az_ok_50
  | 51 => az_ok_51
  | 52 => az_ok_52
  | 53 => az_ok_53
  | 54 => az_ok_54
  | 55 => az_ok_55
  | 56 => az_ok_56
  | 57 => az_ok_57
  | 58 => az_ok_58
  | 59 => az_ok_59
  | 60 => az_ok_60
  | 61 => az_ok_61
  | 62 => az_ok_62
  | 63 => az_ok_63
  | 64 => az_ok_64
  | 65 => az_ok_65
  | 66 => az_ok_66
  | 67 => az_ok_67
  | 68 => az_ok_68
  | 69 => az_ok_69
  | 70 => az_ok_70
  | 71 => az_ok_71
  | 72 => az_ok_72
  | 73 => az_ok_73
  | 74 => az_ok_74
  | 75 => az_ok_75
  | 76 => az_ok_76
  | 77 => az_ok_77
  | 78 => az_ok_78
  | 79 => az_ok_79
  | 80 => az_ok_80
  | 81 => az_ok_81
  | 82 => az_ok_82
  | 83 => az_ok_83
  | 84 => az_ok_84
  | 85 => az_ok_85
  | 86 => az_ok_86
  | 87 => az_ok_87
  | 88 => az_ok_88
  | 89 => az_ok_89
  | 90 => az_ok_90
  | 91 => az_ok_91
  | 92 => az_ok_92
  | 93 => az_ok_93
  | 94 => az_ok_94
  | 95 => az_ok_95
  | 96 => az_ok_96
  | 97 => az_ok_97
  | 98 => az_ok_98
  | 99 => az_ok_99
  | 100 => az_ok_100
  | 101 => az_ok_101
  | 102 => az_ok_102
  | 103 => az_ok_103
  | 104 => az_ok_104
  | 105 => az_ok_105
  | 106 => az_ok_106
  | 107 => az_ok_107
  | 108 => az_ok_108
  | 109 => az_ok_109
  | 110 => az_ok_110
  | 111 => az_ok_111
  | 112 => az_ok_112
  | 113 => az_ok_113
  | 114 => az_ok_114
  | 115 => az_ok_115
  | 116 => az_ok_116
  | 117 => az_ok_117
  | 118 => az_ok_118
  | 119 => az_ok_119
  | 120 => az_ok_120
  | 121 => az_ok_121
  | 122 => az_ok_122
  | 123 => az_ok_123
  | 124 => az_ok_124
  | 125 => az_ok_125
  | 126 => az_ok_126
  | 127 => az_ok_127
  | 128 => az_ok_128
  | 129 => az_ok_129
  | 130 => az_ok_130
  | 131 => az_ok_131
  | 132 => az_ok_132
  | 133 => az_ok_133
  | 134 => az_ok_134
  | 135 => az_ok_135
  | 136 => az_ok_136
  | 137 => az_ok_137
  | 138 => az_ok_138
  | 139 => az_ok_139
  | 140 => az_ok_140
  | 141 => az_ok_141
  | 142 => az_ok_142
  | 143 => az_ok_143
  | 144 => az_ok_144
  | 145 => az_ok_145
  | 146 => az_ok_146
  | 147 => az_ok_147
  | 148 => az_ok_148
  | 149 => az_ok_149
  | 150 => az_ok_150
  | 151 => az_ok_151
  | 152 => az_ok_152
  | 153 => az_ok_153
  | 154 => az_ok_154
  | 155 => az_ok_155
  | 156 => az_ok_156
  | 157 => az_ok_157
  | 158 => az_ok_158
  | 159 => az_ok_159
  | 160 => az_ok_160
  | 161 => az_ok_161
  | 162 => az_ok_162
  | 163 => az_ok_163
  | 164 => az_ok_164
  | 165 => az_ok_165
  | 166 => az_ok_166
  | 167 => az_ok_167
  | 168 => az_ok_168
  | 169 => az_ok_169
  | 170 => az_ok_170
  | 171 => az_ok_171
  | 172 => az_ok_172
  | 173 => az_ok_173
  | 174 => az_ok_174
  | 175 => az_ok_175
  | 176 => az_ok_176
  | 177 => az_ok_177
  | 178 => az_ok_178
  | 179 => az_ok_179
  | 180 => az_ok_180
  | 181 => az_ok_181
  | 182 => az_ok_182
  | 183 => az_ok_183
  | 184 => az_ok_184
  | 185 => az_ok_185
  | 186 => az_ok_186
  | 187 => az_ok_187
  | 188 => az_ok_188
  | 189 => az_ok_189
  | 190 => az_ok_190
  | 191 => az_ok_191
  | 192 => az_ok_192
  | 193 => az_ok_193
  | 194 => az_ok_194
  | 195 => az_ok_195
  | 196 => az_ok_196
  | 197 => az_ok_197
  | 198 => az_ok_198
  | 199 => az_ok_199
  | 200 => az_ok_200
  | 201 => az_ok_201
  | 202 => az_ok_202
  | 203 => az_ok_203
  | 204 => az_ok_204
  | 205 => az_ok_205
  | 206 => az_ok_206
  | 207 => az_ok_207
  | 208 => az_ok_208
  | 209 => az_ok_209
  | 210 => az_ok_210
  | 211 => az_ok_211
  | 212 => az_ok_212
  | 213 => az_ok_213
  | 214 => az_ok_214
  | 215 => az_ok_215
  | 216 => az_ok_216
  | 217 => az_ok_217
  | 218 => az_ok_218
  | _ + 219 => rfl
theorem az_cws : ∀ M, M < 218 → az_cw M
  | 0, _ => az_cw_0
  | 1, _ => az_cw_1
  | 2, _ => az_cw_2
  | 3, _ => az_cw_3
  | 4, _ => az_cw_4
  | 5, _ => az_cw_5
  | 6, _ => az_cw_6
  | 7, _ => az_cw_7
  | 8, _ => az_cw_8
  | 9, _ => az_cw_9
  | 10, _ => az_cw_10
  | 11, _ => az_cw_11
  | 12, _ => az_cw_12
  | 13, _ => az_cw_13
  | 14, _ => az_cw_14
  | 15, _ => az_cw_15
  | 16, _ => az_cw_16
  | 17, _ => az_cw_17
  | 18, _ => az_cw_18
  | 19, _ => az_cw_19
  | 20, _ => az_cw_20
  | 21, _ => az_cw_21
  | 22, _ => az_cw_22
  | 23, _ => az_cw_23
  | 24, _ => az_cw_24
  | 25, _ => az_cw_25
  | 26, _ => az_cw_26
  | 27, _ => az_cw_27
  | 28, _ => az_cw_28
  | 29, _ => az_cw_29
  | 30, _ => az_cw_30
  | 31, _ => az_cw_31
  | 32, _ => az_cw_32
  | 33, _ => az_cw_33
  | 34, _ => az_cw_34
  | 35, _ => az_cw_35
  | 36, _ => az_cw_36
  | 37, _ => az_cw_37
  | 38, _ => az_cw_38
  | 39, _ => az_cw_39
  | 40, _ => az_cw_40
  | 41, _ => az_cw_41
  | 42, _ => az_cw_42
  | 43, _ => az_cw_43
  | 44, _ => az_cw_44
  | 45, _ => az_cw_45
  | 46, _ => az_cw_46
  | 47, _ => az_cw_47
  | 48, _ => az_cw_48
  | 49, _ => az_cw_49
  | 50, _ => az_cw_50
  | 51, _ => az_cw_51
  | 52, _ => az_cw_52
  | 53, _ => az_cw_53
  | 54, _ => az_cw_54
  | 55, _ => az_cw_55
  | 56, _ => az_cw_56
  | 57, _ => az_cw_57
  | 58, _ => az_cw_58
  | 59, _ => az_cw_59
  | 60, _ => az_cw_60
  | 61, _ => az_cw_61
  | 62, _ => az_cw_62
  | 63, _ => az_cw_63
  | 64, _ => az_cw_64
  | 65, _ => az_cw_65
  | 66, _ => az_cw_66
  | 67, _ => az_cw_67
  | 68, _ => az_cw_68
  | 69, _ => az_cw_69
  | 70, _ => az_cw_70
  | 71, _ => az_cw_71
  | 72, _ => az_cw_72
  | 73, _ => az_cw_73
  | 74, _ => az_cw_74
  | 75, _ => az_cw_75
  | 76, _ => az_cw_76
  | 77, _ => az_cw_77
  | 78, _ => az_cw_78
  | 79, _ => az_cw_79
  | 80, _ => az_cw_80
  | 81, _ => az_cw_81
  | 82, _ => az_cw_82
  | 83, _ => az_cw_83
  | 84, _ => az_cw_84
  | 85, _ => az_cw_85
  | 86, _ => az_cw_86
  | 87, _ => az_cw_87
  | 88, _ => az_cw_88
  | 89, _ => az_cw_89
  | 90, _ => az_cw_90
  | 91, _ => az_cw_91
  | 92, _ => az_cw_92
  | 93, _ => az_cw_93
  | 94, _ => az_cw_94
  | 95, _ => az_cw_95
  | 96, _ => az_cw_96
  | 97, _ => az_cw_97
  | 98, _ => az_cw_98
  | 99, _ => az_cw_99
  | 100, _ => az_cw_100
  | 101, _ => az_cw_101
  | 102, _ => az_cw_102
  | 103, _ => az_cw_103
  | 104, _ => az_cw_104
  | 105, _ => az_cw_105
  | 106, _ => az_cw_106
  | 107, _ => az_cw_107
  | 108, _ => az_cw_108
  | 109, _ => az_cw_109
  | 110, _ => az_cw_110
  | 111, _ => az_cw_111
  | 112, _ => az_cw_112
  | 113, _ => az_cw_113
  | 114, _ => az_cw_114
  | 115, _ => az_cw_115
  | 116, _ => az_cw_116
  | 117, _ => az_cw_117
  | 118, _ => az_cw_118
  | 119, _ => az_cw_119
  | 120, _ => az_cw_120
  | 121, _ => az_cw_121
  | 122, _ => az_cw_122
  | 123, _ => az_cw_123
  | 124, _ => az_cw_124
  | 125, _ => az_cw_125
  | 126, _ => az_cw_126
  | 127, _ => az_cw_127
  | 128, _ => az_cw_128
  | 129, _ => az_cw_129
  | 130, _ => az_cw_130
  | 131, _ => az_cw_131
  | 132, _ => az_cw_132
  | 133, _ => az_cw_133
  | 134, _ => az_cw_134
  | 135, _ => az_cw_135
  | 136, _ => az_cw_136
  | 137, _ => az_cw_137
  | 138, _ => az_cw_138
  | 139, _ => az_cw_139
  | 140, _ => az_cw_140
  | 141, _ => az_cw_141
  | 142, _ => az_cw_142
  | 143, _ => az_cw_143
  | 144, _ => az_cw_144
  | 145, _ => az_cw_145
  | 146, _ => az_cw_146
  | 147, _ => az_cw_147
  | 148, _ => az_cw_148
  | 149, _ => az_cw_149
  | 150, _ => az_cw_150
  | 151, _ => az_cw_151
  | 152, _ => az_cw_152
  | 153, _ => az_cw_153
  | 154, _ => az_cw_154
  | 155, _ => az_cw_155
  | 156, _ => az_cw_156
  | 157, _ => az_cw_157
  | 158, _ => az_cw_158
  | 159, _ => az_cw_159
  | 160, _ => az_cw_160
  | 161, _ => az_cw_161
  | 162, _ => az_cw_162
  | 163, _ => az_cw_163
  | 164, _ => az_cw_164
  | 165, _ => az_cw_165
  | 166, _ => az_cw_166
  | 167, _ => az_cw_167
  | 168, _ => az_cw_168
  | 169, _ => az_cw_169
  | 170, _ => az_cw_170
  | 171, _ => az_cw_171
  | 172, _ => az_cw_172
  | 173, _ => az_cw_173
  | 174, _ => az_cw_174
  | 175, _ => az_cw_175
  | 176, _ => az_cw_176
  | 177, _ => az_cw_177
  | 178, _ => az_cw_178
  | 179, _ => az_cw_179
  | 180, _ => az_cw_180
  | 181, _ => az_cw_181
  | 182, _ => az_cw_182
  | 183, _ => az_cw_183
  | 184, _ => az_cw_184
  | 185, _ => az_cw_185
  | 186, _ => az_cw_186
  | 187, _ => az_cw_187
  | 188, _ => az_cw_188
  | 189, _ => az_cw_189
  | 190, _ => az_cw_190
  | 191, _ => az_cw_191
  | 192, _ => az_cw_192
  | 193, _ => az_cw_193
  | 194, _ => az_cw_194
  | 195, _ => az_cw_195
  | 196, _ => az_cw_196
  | 197, _ => az_cw_197
  | 198, _ => az_cw_198
  | 199, _ => az_cw_199
  | 200, _ => az_cw_200
  | 201, _ => az_cw_201
  | 202, _ => az_cw_202
  | 203, _ => az_cw_203
  | 204, _ => az_cw_204
  | 205, _ => az_cw_205
  | 206, _ => az_cw_206
  | 207, _ => az_cw_207
  | 208, _ => az_cw_208
  | 209, _ => az_cw_209
  | 210, _ => az_cw_210
  | 211, _ => az_cw_211
  | 212, _ => az_cw_212
  | 213, _ => az_cw_213
  | 214, _ => az_cw_214
  | 215, _ => az_cw_215
  | 216, _ => az_cw_216
  | 217, _ => az_cw_217
  | _ + 218, h => absurd h (by omega)
