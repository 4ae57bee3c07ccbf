/-! the cells of the reference (0 to 19) and of the class (20 on), by their numbers: printed by a program of mine -/
def shp : List CS := [
  .inl (8, [some 1, some 2, some 3, some 4, some 5, none, some 6, none, none, none, none, some 7, some 8, some 9, some 10, some 11, some 12, some 13, some 14, some 15, some 16, none, none, none, none, none, none, none, some 17, some 18, some 19, none, none, none]),
  .inr (.inl (0, 459)),
  .inr (.inl (0, 459)),
  .inr (.inl (0, 4590)),
  .inr (.inl (0, 918)),
  .inr (.inl (2, 2)),
  .inr (.inl (1, 400)),
  .inr (.inl (2, 4)),
  .inr (.inl (0, 22509)),
  .inr (.inl (0, 2501)),
  .inr (.inl (0, 8)),
  .inr (.inl (0, 8)),
  .inr (.inl (0, 36009)),
  .inr (.inl (0, 8)),
  .inr (.inl (0, 8)),
  .inr (.inl (0, 8)),
  .inr (.inl (0, 8)),
  .inr (.inl (3, 2501)),
  .inr (.inl (0, 8)),
  .inr (.inl (0, 8)),
  .inl (7, [some 21, some 175, some 176, none, some 177, none, none, some 178, none, some 179, some 183, some 186, some 207, some 210, some 211, some 212, some 213, some 209]),
  .inl (6, [none, none, some 22, some 23, some 24, some 25, some 26, some 27, some 28, some 29, some 30, some 31]),
  .inr (.inl (0, 8)),
  .inr (.inl (0, 8)),
  .inr (.inl (0, 8)),
  .inr (.inl (0, 8)),
  .inr (.inl (0, 8)),
  .inr (.inl (0, 8)),
  .inr (.inl (0, 8)),
  .inr (.inl (0, 5)),
  .inr (.inl (0, 40)),
  .inr (.inl (0, 320)),
  .inl (6, [none, none, some 33, some 34, some 35, some 36, some 37, some 38, some 39, some 40, some 41, some 42]),
  .inr (.inl (0, 8)),
  .inr (.inl (0, 8)),
  .inr (.inl (0, 8)),
  .inr (.inl (0, 8)),
  .inr (.inl (0, 8)),
  .inr (.inl (0, 8)),
  .inr (.inl (0, 8)),
  .inr (.inl (0, 5)),
  .inr (.inl (0, 40)),
  .inr (.inl (0, 320)),
  .inl (6, [none, none, some 44, some 45, some 46, some 47, some 48, some 49, some 50, some 51, some 52, some 53]),
  .inr (.inl (0, 8)),
  .inr (.inl (0, 8)),
  .inr (.inl (0, 8)),
  .inr (.inl (0, 8)),
  .inr (.inl (0, 8)),
  .inr (.inl (0, 8)),
  .inr (.inl (0, 8)),
  .inr (.inl (0, 5)),
  .inr (.inl (0, 40)),
  .inr (.inl (0, 320)),
  .inl (6, [none, none, some 55, some 56, some 57, some 58, some 59, some 60, some 61, some 62, some 63, some 64]),
  .inr (.inl (0, 8)),
  .inr (.inl (0, 8)),
  .inr (.inl (0, 8)),
  .inr (.inl (0, 8)),
  .inr (.inl (0, 8)),
  .inr (.inl (0, 8)),
  .inr (.inl (0, 8)),
  .inr (.inl (0, 5)),
  .inr (.inl (0, 40)),
  .inr (.inl (0, 320)),
  .inl (6, [none, none, some 66, some 67, some 68, some 69, some 70, some 71, some 72, some 73, some 74, some 75]),
  .inr (.inl (0, 8)),
  .inr (.inl (0, 8)),
  .inr (.inl (0, 8)),
  .inr (.inl (0, 8)),
  .inr (.inl (0, 8)),
  .inr (.inl (0, 8)),
  .inr (.inl (0, 8)),
  .inr (.inl (0, 5)),
  .inr (.inl (0, 40)),
  .inr (.inl (0, 320)),
  .inl (6, [none, none, some 77, some 78, some 79, some 80, some 81, some 82, some 83, some 84, some 85, some 86]),
  .inr (.inl (0, 8)),
  .inr (.inl (0, 8)),
  .inr (.inl (0, 8)),
  .inr (.inl (0, 8)),
  .inr (.inl (0, 8)),
  .inr (.inl (0, 8)),
  .inr (.inl (0, 8)),
  .inr (.inl (0, 5)),
  .inr (.inl (0, 40)),
  .inr (.inl (0, 320)),
  .inl (6, [none, none, some 88, some 89, some 90, some 91, some 92, some 93, some 94, some 95, some 96, some 97]),
  .inr (.inl (0, 8)),
  .inr (.inl (0, 8)),
  .inr (.inl (0, 8)),
  .inr (.inl (0, 8)),
  .inr (.inl (0, 8)),
  .inr (.inl (0, 8)),
  .inr (.inl (0, 8)),
  .inr (.inl (0, 5)),
  .inr (.inl (0, 40)),
  .inr (.inl (0, 320)),
  .inl (6, [none, none, some 99, some 100, some 101, some 102, some 103, some 104, some 105, some 106, some 107, some 108]),
  .inr (.inl (0, 8)),
  .inr (.inl (0, 8)),
  .inr (.inl (0, 8)),
  .inr (.inl (0, 8)),
  .inr (.inl (0, 8)),
  .inr (.inl (0, 8)),
  .inr (.inl (0, 8)),
  .inr (.inl (0, 5)),
  .inr (.inl (0, 40)),
  .inr (.inl (0, 320)),
  .inl (6, [none, none, some 110, some 111, some 112, some 113, some 114, some 115, some 116, some 117, some 118, some 119]),
  .inr (.inl (0, 8)),
  .inr (.inl (0, 8)),
  .inr (.inl (0, 8)),
  .inr (.inl (0, 8)),
  .inr (.inl (0, 8)),
  .inr (.inl (0, 8)),
  .inr (.inl (0, 8)),
  .inr (.inl (0, 5)),
  .inr (.inl (0, 40)),
  .inr (.inl (0, 320)),
  .inl (6, [none, none, some 121, some 122, some 123, some 124, some 125, some 126, some 127, some 128, some 129, some 130]),
  .inr (.inl (0, 8)),
  .inr (.inl (0, 8)),
  .inr (.inl (0, 8)),
  .inr (.inl (0, 8)),
  .inr (.inl (0, 8)),
  .inr (.inl (0, 8)),
  .inr (.inl (0, 8)),
  .inr (.inl (0, 5)),
  .inr (.inl (0, 40)),
  .inr (.inl (0, 320)),
  .inl (6, [none, none, some 132, some 133, some 134, some 135, some 136, some 137, some 138, some 139, some 140, some 141]),
  .inr (.inl (0, 8)),
  .inr (.inl (0, 8)),
  .inr (.inl (0, 8)),
  .inr (.inl (0, 8)),
  .inr (.inl (0, 8)),
  .inr (.inl (0, 8)),
  .inr (.inl (0, 8)),
  .inr (.inl (0, 5)),
  .inr (.inl (0, 40)),
  .inr (.inl (0, 320)),
  .inl (6, [none, none, some 143, some 144, some 145, some 146, some 147, some 148, some 149, some 150, some 151, some 152]),
  .inr (.inl (0, 8)),
  .inr (.inl (0, 8)),
  .inr (.inl (0, 8)),
  .inr (.inl (0, 8)),
  .inr (.inl (0, 8)),
  .inr (.inl (0, 8)),
  .inr (.inl (0, 8)),
  .inr (.inl (0, 5)),
  .inr (.inl (0, 40)),
  .inr (.inl (0, 320)),
  .inl (6, [none, none, some 154, some 155, some 156, some 157, some 158, some 159, some 160, some 161, some 162, some 163]),
  .inr (.inl (0, 8)),
  .inr (.inl (0, 8)),
  .inr (.inl (0, 8)),
  .inr (.inl (0, 8)),
  .inr (.inl (0, 8)),
  .inr (.inl (0, 8)),
  .inr (.inl (0, 8)),
  .inr (.inl (0, 5)),
  .inr (.inl (0, 40)),
  .inr (.inl (0, 320)),
  .inl (6, [none, none, some 165, some 166, some 167, some 168, some 169, some 170, some 171, some 172, some 173, some 174]),
  .inr (.inl (0, 8)),
  .inr (.inl (0, 8)),
  .inr (.inl (0, 8)),
  .inr (.inl (0, 8)),
  .inr (.inl (0, 8)),
  .inr (.inl (0, 8)),
  .inr (.inl (0, 8)),
  .inr (.inl (0, 5)),
  .inr (.inl (0, 40)),
  .inr (.inl (0, 320)),
  .inl (4, [some 32, some 176, none, none, none, none, none, none]),
  .inr (.inl (0, 400)),
  .inr (.inr (4, [43, 54, 65, 76, 87, 98, 109, 120, 131, 142])),
  .inr (.inr (4, [153, 164])),
  .inl (2, [some 180, some 181, some 182, none, none, none, none, none, some 183, some 184]),
  .inr (.inl (0, 8)),
  .inr (.inl (0, 8)),
  .inr (.inl (0, 8)),
  .inl (0, [some 185, some 186, some 187, some 188, some 189, none, none]),
  .inr (.inl (0, 8)),
  .inr (.inl (0, 8)),
  .inl (1, [some 190, some 191, some 192, none, none, none, some 193, some 203, some 204, some 205, some 206]),
  .inr (.inl (0, 8)),
  .inr (.inl (0, 2501)),
  .inr (.inl (0, 2501)),
  .inr (.inl (0, 8)),
  .inr (.inl (0, 8)),
  .inr (.inl (0, 8)),
  .inr (.inr (5, [194, 195, 196, 197, 198, 199, 200, 201, 202])),
  .inr (.inl (0, 4001)),
  .inr (.inl (0, 4001)),
  .inr (.inl (0, 4001)),
  .inr (.inl (0, 4001)),
  .inr (.inl (0, 4001)),
  .inr (.inl (0, 4001)),
  .inr (.inl (0, 4001)),
  .inr (.inl (0, 4001)),
  .inr (.inl (0, 4001)),
  .inr (.inl (0, 9)),
  .inr (.inl (0, 9)),
  .inr (.inl (0, 4001)),
  .inr (.inl (0, 4001)),
  .inl (3, [some 208]),
  .inr (.inl (3, 40)),
  .inl (5, [none, none, none]),
  .inr (.inl (3, 2501)),
  .inr (.inl (0, 8)),
  .inr (.inl (0, 8)),
  .inr (.inl (0, 8))]
theorem sh_0 : shp[0]? = some (.inl (8, [some 1, some 2, some 3, some 4, some 5, none, some 6, none, none, none, none, some 7, some 8, some 9, some 10, some 11, some 12, some 13, some 14, some 15, some 16, none, none, none, none, none, none, none, some 17, some 18, some 19, none, none, none])) := rfl
theorem sh_1 : shp[1]? = some (.inr (.inl (0, 459))) := rfl
theorem sh_2 : shp[2]? = some (.inr (.inl (0, 459))) := rfl
theorem sh_3 : shp[3]? = some (.inr (.inl (0, 4590))) := rfl
theorem sh_4 : shp[4]? = some (.inr (.inl (0, 918))) := rfl
theorem sh_5 : shp[5]? = some (.inr (.inl (2, 2))) := rfl
theorem sh_6 : shp[6]? = some (.inr (.inl (1, 400))) := rfl
theorem sh_7 : shp[7]? = some (.inr (.inl (2, 4))) := rfl
theorem sh_8 : shp[8]? = some (.inr (.inl (0, 22509))) := rfl
theorem sh_9 : shp[9]? = some (.inr (.inl (0, 2501))) := rfl
theorem sh_10 : shp[10]? = some (.inr (.inl (0, 8))) := rfl
theorem sh_11 : shp[11]? = some (.inr (.inl (0, 8))) := rfl
theorem sh_12 : shp[12]? = some (.inr (.inl (0, 36009))) := rfl
theorem sh_13 : shp[13]? = some (.inr (.inl (0, 8))) := rfl
theorem sh_14 : shp[14]? = some (.inr (.inl (0, 8))) := rfl
theorem sh_15 : shp[15]? = some (.inr (.inl (0, 8))) := rfl
theorem sh_16 : shp[16]? = some (.inr (.inl (0, 8))) := rfl
theorem sh_17 : shp[17]? = some (.inr (.inl (3, 2501))) := rfl
theorem sh_18 : shp[18]? = some (.inr (.inl (0, 8))) := rfl
theorem sh_19 : shp[19]? = some (.inr (.inl (0, 8))) := rfl
theorem sh_20 : shp[20]? = some (.inl (7, [some 21, some 175, some 176, none, some 177, none, none, some 178, none, some 179, some 183, some 186, some 207, some 210, some 211, some 212, some 213, some 209])) := rfl
theorem sh_21 : shp[21]? = some (.inl (6, [none, none, some 22, some 23, some 24, some 25, some 26, some 27, some 28, some 29, some 30, some 31])) := rfl
theorem sh_22 : shp[22]? = some (.inr (.inl (0, 8))) := rfl
theorem sh_23 : shp[23]? = some (.inr (.inl (0, 8))) := rfl
theorem sh_24 : shp[24]? = some (.inr (.inl (0, 8))) := rfl
theorem sh_25 : shp[25]? = some (.inr (.inl (0, 8))) := rfl
theorem sh_26 : shp[26]? = some (.inr (.inl (0, 8))) := rfl
theorem sh_27 : shp[27]? = some (.inr (.inl (0, 8))) := rfl
theorem sh_28 : shp[28]? = some (.inr (.inl (0, 8))) := rfl
theorem sh_29 : shp[29]? = some (.inr (.inl (0, 5))) := rfl
theorem sh_30 : shp[30]? = some (.inr (.inl (0, 40))) := rfl
theorem sh_31 : shp[31]? = some (.inr (.inl (0, 320))) := rfl
theorem sh_32 : shp[32]? = some (.inl (6, [none, none, some 33, some 34, some 35, some 36, some 37, some 38, some 39, some 40, some 41, some 42])) := rfl
theorem sh_33 : shp[33]? = some (.inr (.inl (0, 8))) := rfl
theorem sh_34 : shp[34]? = some (.inr (.inl (0, 8))) := rfl
theorem sh_35 : shp[35]? = some (.inr (.inl (0, 8))) := rfl
theorem sh_36 : shp[36]? = some (.inr (.inl (0, 8))) := rfl
theorem sh_37 : shp[37]? = some (.inr (.inl (0, 8))) := rfl
theorem sh_38 : shp[38]? = some (.inr (.inl (0, 8))) := rfl
theorem sh_39 : shp[39]? = some (.inr (.inl (0, 8))) := rfl
theorem sh_40 : shp[40]? = some (.inr (.inl (0, 5))) := rfl
theorem sh_41 : shp[41]? = some (.inr (.inl (0, 40))) := rfl
theorem sh_42 : shp[42]? = some (.inr (.inl (0, 320))) := rfl
theorem sh_43 : shp[43]? = some (.inl (6, [none, none, some 44, some 45, some 46, some 47, some 48, some 49, some 50, some 51, some 52, some 53])) := rfl
theorem sh_44 : shp[44]? = some (.inr (.inl (0, 8))) := rfl
theorem sh_45 : shp[45]? = some (.inr (.inl (0, 8))) := rfl
theorem sh_46 : shp[46]? = some (.inr (.inl (0, 8))) := rfl
theorem sh_47 : shp[47]? = some (.inr (.inl (0, 8))) := rfl
theorem sh_48 : shp[48]? = some (.inr (.inl (0, 8))) := rfl
theorem sh_49 : shp[49]? = some (.inr (.inl (0, 8))) := rfl
theorem sh_50 : shp[50]? = some (.inr (.inl (0, 8))) := rfl
theorem sh_51 : shp[51]? = some (.inr (.inl (0, 5))) := rfl
theorem sh_52 : shp[52]? = some (.inr (.inl (0, 40))) := rfl
theorem sh_53 : shp[53]? = some (.inr (.inl (0, 320))) := rfl
theorem sh_54 : shp[54]? = some (.inl (6, [none, none, some 55, some 56, some 57, some 58, some 59, some 60, some 61, some 62, some 63, some 64])) := rfl
theorem sh_55 : shp[55]? = some (.inr (.inl (0, 8))) := rfl
theorem sh_56 : shp[56]? = some (.inr (.inl (0, 8))) := rfl
theorem sh_57 : shp[57]? = some (.inr (.inl (0, 8))) := rfl
theorem sh_58 : shp[58]? = some (.inr (.inl (0, 8))) := rfl
theorem sh_59 : shp[59]? = some (.inr (.inl (0, 8))) := rfl
theorem sh_60 : shp[60]? = some (.inr (.inl (0, 8))) := rfl
theorem sh_61 : shp[61]? = some (.inr (.inl (0, 8))) := rfl
theorem sh_62 : shp[62]? = some (.inr (.inl (0, 5))) := rfl
theorem sh_63 : shp[63]? = some (.inr (.inl (0, 40))) := rfl
theorem sh_64 : shp[64]? = some (.inr (.inl (0, 320))) := rfl
theorem sh_65 : shp[65]? = some (.inl (6, [none, none, some 66, some 67, some 68, some 69, some 70, some 71, some 72, some 73, some 74, some 75])) := rfl
theorem sh_66 : shp[66]? = some (.inr (.inl (0, 8))) := rfl
theorem sh_67 : shp[67]? = some (.inr (.inl (0, 8))) := rfl
theorem sh_68 : shp[68]? = some (.inr (.inl (0, 8))) := rfl
theorem sh_69 : shp[69]? = some (.inr (.inl (0, 8))) := rfl
theorem sh_70 : shp[70]? = some (.inr (.inl (0, 8))) := rfl
theorem sh_71 : shp[71]? = some (.inr (.inl (0, 8))) := rfl
theorem sh_72 : shp[72]? = some (.inr (.inl (0, 8))) := rfl
theorem sh_73 : shp[73]? = some (.inr (.inl (0, 5))) := rfl
theorem sh_74 : shp[74]? = some (.inr (.inl (0, 40))) := rfl
theorem sh_75 : shp[75]? = some (.inr (.inl (0, 320))) := rfl
theorem sh_76 : shp[76]? = some (.inl (6, [none, none, some 77, some 78, some 79, some 80, some 81, some 82, some 83, some 84, some 85, some 86])) := rfl
theorem sh_77 : shp[77]? = some (.inr (.inl (0, 8))) := rfl
theorem sh_78 : shp[78]? = some (.inr (.inl (0, 8))) := rfl
theorem sh_79 : shp[79]? = some (.inr (.inl (0, 8))) := rfl
theorem sh_80 : shp[80]? = some (.inr (.inl (0, 8))) := rfl
theorem sh_81 : shp[81]? = some (.inr (.inl (0, 8))) := rfl
theorem sh_82 : shp[82]? = some (.inr (.inl (0, 8))) := rfl
theorem sh_83 : shp[83]? = some (.inr (.inl (0, 8))) := rfl
theorem sh_84 : shp[84]? = some (.inr (.inl (0, 5))) := rfl
theorem sh_85 : shp[85]? = some (.inr (.inl (0, 40))) := rfl
theorem sh_86 : shp[86]? = some (.inr (.inl (0, 320))) := rfl
theorem sh_87 : shp[87]? = some (.inl (6, [none, none, some 88, some 89, some 90, some 91, some 92, some 93, some 94, some 95, some 96, some 97])) := rfl
theorem sh_88 : shp[88]? = some (.inr (.inl (0, 8))) := rfl
theorem sh_89 : shp[89]? = some (.inr (.inl (0, 8))) := rfl
theorem sh_90 : shp[90]? = some (.inr (.inl (0, 8))) := rfl
theorem sh_91 : shp[91]? = some (.inr (.inl (0, 8))) := rfl
theorem sh_92 : shp[92]? = some (.inr (.inl (0, 8))) := rfl
theorem sh_93 : shp[93]? = some (.inr (.inl (0, 8))) := rfl
theorem sh_94 : shp[94]? = some (.inr (.inl (0, 8))) := rfl
theorem sh_95 : shp[95]? = some (.inr (.inl (0, 5))) := rfl
theorem sh_96 : shp[96]? = some (.inr (.inl (0, 40))) := rfl
theorem sh_97 : shp[97]? = some (.inr (.inl (0, 320))) := rfl
theorem sh_98 : shp[98]? = some (.inl (6, [none, none, some 99, some 100, some 101, some 102, some 103, some 104, some 105, some 106, some 107, some 108])) := rfl
theorem sh_99 : shp[99]? = some (.inr (.inl (0, 8))) := rfl
theorem sh_100 : shp[100]? = some (.inr (.inl (0, 8))) := rfl
theorem sh_101 : shp[101]? = some (.inr (.inl (0, 8))) := rfl
theorem sh_102 : shp[102]? = some (.inr (.inl (0, 8))) := rfl
theorem sh_103 : shp[103]? = some (.inr (.inl (0, 8))) := rfl
theorem sh_104 : shp[104]? = some (.inr (.inl (0, 8))) := rfl
theorem sh_105 : shp[105]? = some (.inr (.inl (0, 8))) := rfl
theorem sh_106 : shp[106]? = some (.inr (.inl (0, 5))) := rfl
theorem sh_107 : shp[107]? = some (.inr (.inl (0, 40))) := rfl
theorem sh_108 : shp[108]? = some (.inr (.inl (0, 320))) := rfl
theorem sh_109 : shp[109]? = some (.inl (6, [none, none, some 110, some 111, some 112, some 113, some 114, some 115, some 116, some 117, some 118, some 119])) := rfl
theorem sh_110 : shp[110]? = some (.inr (.inl (0, 8))) := rfl
theorem sh_111 : shp[111]? = some (.inr (.inl (0, 8))) := rfl
theorem sh_112 : shp[112]? = some (.inr (.inl (0, 8))) := rfl
theorem sh_113 : shp[113]? = some (.inr (.inl (0, 8))) := rfl
theorem sh_114 : shp[114]? = some (.inr (.inl (0, 8))) := rfl
theorem sh_115 : shp[115]? = some (.inr (.inl (0, 8))) := rfl
theorem sh_116 : shp[116]? = some (.inr (.inl (0, 8))) := rfl
theorem sh_117 : shp[117]? = some (.inr (.inl (0, 5))) := rfl
theorem sh_118 : shp[118]? = some (.inr (.inl (0, 40))) := rfl
theorem sh_119 : shp[119]? = some (.inr (.inl (0, 320))) := rfl
theorem sh_120 : shp[120]? = some (.inl (6, [none, none, some 121, some 122, some 123, some 124, some 125, some 126, some 127, some 128, some 129, some 130])) := rfl
theorem sh_121 : shp[121]? = some (.inr (.inl (0, 8))) := rfl
theorem sh_122 : shp[122]? = some (.inr (.inl (0, 8))) := rfl
theorem sh_123 : shp[123]? = some (.inr (.inl (0, 8))) := rfl
theorem sh_124 : shp[124]? = some (.inr (.inl (0, 8))) := rfl
theorem sh_125 : shp[125]? = some (.inr (.inl (0, 8))) := rfl
theorem sh_126 : shp[126]? = some (.inr (.inl (0, 8))) := rfl
theorem sh_127 : shp[127]? = some (.inr (.inl (0, 8))) := rfl
theorem sh_128 : shp[128]? = some (.inr (.inl (0, 5))) := rfl
theorem sh_129 : shp[129]? = some (.inr (.inl (0, 40))) := rfl
theorem sh_130 : shp[130]? = some (.inr (.inl (0, 320))) := rfl
theorem sh_131 : shp[131]? = some (.inl (6, [none, none, some 132, some 133, some 134, some 135, some 136, some 137, some 138, some 139, some 140, some 141])) := rfl
theorem sh_132 : shp[132]? = some (.inr (.inl (0, 8))) := rfl
theorem sh_133 : shp[133]? = some (.inr (.inl (0, 8))) := rfl
theorem sh_134 : shp[134]? = some (.inr (.inl (0, 8))) := rfl
theorem sh_135 : shp[135]? = some (.inr (.inl (0, 8))) := rfl
theorem sh_136 : shp[136]? = some (.inr (.inl (0, 8))) := rfl
theorem sh_137 : shp[137]? = some (.inr (.inl (0, 8))) := rfl
theorem sh_138 : shp[138]? = some (.inr (.inl (0, 8))) := rfl
theorem sh_139 : shp[139]? = some (.inr (.inl (0, 5))) := rfl
theorem sh_140 : shp[140]? = some (.inr (.inl (0, 40))) := rfl
theorem sh_141 : shp[141]? = some (.inr (.inl (0, 320))) := rfl
theorem sh_142 : shp[142]? = some (.inl (6, [none, none, some 143, some 144, some 145, some 146, some 147, some 148, some 149, some 150, some 151, some 152])) := rfl
theorem sh_143 : shp[143]? = some (.inr (.inl (0, 8))) := rfl
theorem sh_144 : shp[144]? = some (.inr (.inl (0, 8))) := rfl
theorem sh_145 : shp[145]? = some (.inr (.inl (0, 8))) := rfl
theorem sh_146 : shp[146]? = some (.inr (.inl (0, 8))) := rfl
theorem sh_147 : shp[147]? = some (.inr (.inl (0, 8))) := rfl
theorem sh_148 : shp[148]? = some (.inr (.inl (0, 8))) := rfl
theorem sh_149 : shp[149]? = some (.inr (.inl (0, 8))) := rfl
theorem sh_150 : shp[150]? = some (.inr (.inl (0, 5))) := rfl
theorem sh_151 : shp[151]? = some (.inr (.inl (0, 40))) := rfl
theorem sh_152 : shp[152]? = some (.inr (.inl (0, 320))) := rfl
theorem sh_153 : shp[153]? = some (.inl (6, [none, none, some 154, some 155, some 156, some 157, some 158, some 159, some 160, some 161, some 162, some 163])) := rfl
theorem sh_154 : shp[154]? = some (.inr (.inl (0, 8))) := rfl
theorem sh_155 : shp[155]? = some (.inr (.inl (0, 8))) := rfl
theorem sh_156 : shp[156]? = some (.inr (.inl (0, 8))) := rfl
theorem sh_157 : shp[157]? = some (.inr (.inl (0, 8))) := rfl
theorem sh_158 : shp[158]? = some (.inr (.inl (0, 8))) := rfl
theorem sh_159 : shp[159]? = some (.inr (.inl (0, 8))) := rfl
theorem sh_160 : shp[160]? = some (.inr (.inl (0, 8))) := rfl
theorem sh_161 : shp[161]? = some (.inr (.inl (0, 5))) := rfl
theorem sh_162 : shp[162]? = some (.inr (.inl (0, 40))) := rfl
theorem sh_163 : shp[163]? = some (.inr (.inl (0, 320))) := rfl
theorem sh_164 : shp[164]? = some (.inl (6, [none, none, some 165, some 166, some 167, some 168, some 169, some 170, some 171, some 172, some 173, some 174])) := rfl
theorem sh_165 : shp[165]? = some (.inr (.inl (0, 8))) := rfl
theorem sh_166 : shp[166]? = some (.inr (.inl (0, 8))) := rfl
theorem sh_167 : shp[167]? = some (.inr (.inl (0, 8))) := rfl
theorem sh_168 : shp[168]? = some (.inr (.inl (0, 8))) := rfl
theorem sh_169 : shp[169]? = some (.inr (.inl (0, 8))) := rfl
theorem sh_170 : shp[170]? = some (.inr (.inl (0, 8))) := rfl
theorem sh_171 : shp[171]? = some (.inr (.inl (0, 8))) := rfl
theorem sh_172 : shp[172]? = some (.inr (.inl (0, 5))) := rfl
theorem sh_173 : shp[173]? = some (.inr (.inl (0, 40))) := rfl
theorem sh_174 : shp[174]? = some (.inr (.inl (0, 320))) := rfl
theorem sh_175 : shp[175]? = some (.inl (4, [some 32, some 176, none, none, none, none, none, none])) := rfl
theorem sh_176 : shp[176]? = some (.inr (.inl (0, 400))) := rfl
theorem sh_177 : shp[177]? = some (.inr (.inr (4, [43, 54, 65, 76, 87, 98, 109, 120, 131, 142]))) := rfl
theorem sh_178 : shp[178]? = some (.inr (.inr (4, [153, 164]))) := rfl
theorem sh_179 : shp[179]? = some (.inl (2, [some 180, some 181, some 182, none, none, none, none, none, some 183, some 184])) := rfl
theorem sh_180 : shp[180]? = some (.inr (.inl (0, 8))) := rfl
theorem sh_181 : shp[181]? = some (.inr (.inl (0, 8))) := rfl
theorem sh_182 : shp[182]? = some (.inr (.inl (0, 8))) := rfl
theorem sh_183 : shp[183]? = some (.inl (0, [some 185, some 186, some 187, some 188, some 189, none, none])) := rfl
theorem sh_184 : shp[184]? = some (.inr (.inl (0, 8))) := rfl
theorem sh_185 : shp[185]? = some (.inr (.inl (0, 8))) := rfl
theorem sh_186 : shp[186]? = some (.inl (1, [some 190, some 191, some 192, none, none, none, some 193, some 203, some 204, some 205, some 206])) := rfl
theorem sh_187 : shp[187]? = some (.inr (.inl (0, 8))) := rfl
theorem sh_188 : shp[188]? = some (.inr (.inl (0, 2501))) := rfl
theorem sh_189 : shp[189]? = some (.inr (.inl (0, 2501))) := rfl
theorem sh_190 : shp[190]? = some (.inr (.inl (0, 8))) := rfl
theorem sh_191 : shp[191]? = some (.inr (.inl (0, 8))) := rfl
theorem sh_192 : shp[192]? = some (.inr (.inl (0, 8))) := rfl
theorem sh_193 : shp[193]? = some (.inr (.inr (5, [194, 195, 196, 197, 198, 199, 200, 201, 202]))) := rfl
theorem sh_194 : shp[194]? = some (.inr (.inl (0, 4001))) := rfl
theorem sh_195 : shp[195]? = some (.inr (.inl (0, 4001))) := rfl
theorem sh_196 : shp[196]? = some (.inr (.inl (0, 4001))) := rfl
theorem sh_197 : shp[197]? = some (.inr (.inl (0, 4001))) := rfl
theorem sh_198 : shp[198]? = some (.inr (.inl (0, 4001))) := rfl
theorem sh_199 : shp[199]? = some (.inr (.inl (0, 4001))) := rfl
theorem sh_200 : shp[200]? = some (.inr (.inl (0, 4001))) := rfl
theorem sh_201 : shp[201]? = some (.inr (.inl (0, 4001))) := rfl
theorem sh_202 : shp[202]? = some (.inr (.inl (0, 4001))) := rfl
theorem sh_203 : shp[203]? = some (.inr (.inl (0, 9))) := rfl
theorem sh_204 : shp[204]? = some (.inr (.inl (0, 9))) := rfl
theorem sh_205 : shp[205]? = some (.inr (.inl (0, 4001))) := rfl
theorem sh_206 : shp[206]? = some (.inr (.inl (0, 4001))) := rfl
theorem sh_207 : shp[207]? = some (.inl (3, [some 208])) := rfl
theorem sh_208 : shp[208]? = some (.inr (.inl (3, 40))) := rfl
theorem sh_209 : shp[209]? = some (.inl (5, [none, none, none])) := rfl
theorem sh_210 : shp[210]? = some (.inr (.inl (3, 2501))) := rfl
theorem sh_211 : shp[211]? = some (.inr (.inl (0, 8))) := rfl
theorem sh_212 : shp[212]? = some (.inr (.inl (0, 8))) := rfl
theorem sh_213 : shp[213]? = some (.inr (.inl (0, 8))) := rfl
