/-! THE SHAPES of all cells, class (0 to 155) and reference (156 to 169): made by a program -/
def SF : List xSh := [.inr (.inl (9, [some (some 1), some (some 3), some (some 5), some (some 18), some (some 31), some (some 36), some (some 41), some (some 83), some (some 95), some (some 98), some (some 106), some (some 150)])),
  .inr (.inl (6, [some (some 2), none])),
  .inl (.char, 200),
  .inr (.inl (5, [some (some 4), none])),
  .inl (.int, 3),
  .inr (.inl (2, [some (some 6), some (some 7), some (some 8), some (some 9), some (some 10), none, none, none])),
  .inl (.int, 7),
  .inl (.int, 7),
  .inl (.int, 3),
  .inl (.int, 7),
  .inr (.inr (.array .int, [some 11, some 12, some 13, some 14, some 15, some 16, some 17])),
  .inl (.int, 7),
  .inl (.int, 7),
  .inl (.int, 7),
  .inl (.int, 7),
  .inl (.int, 7),
  .inl (.int, 7),
  .inl (.int, 7),
  .inr (.inl (2, [some (some 19), some (some 20), some (some 21), some (some 22), some (some 23), none, none, none])),
  .inl (.int, 7),
  .inl (.int, 7),
  .inl (.int, 3),
  .inl (.int, 7),
  .inr (.inr (.array .int, [some 24, some 25, some 26, some 27, some 28, some 29, some 30])),
  .inl (.int, 7),
  .inl (.int, 7),
  .inl (.int, 7),
  .inl (.int, 7),
  .inl (.int, 7),
  .inl (.int, 7),
  .inl (.int, 7),
  .inr (.inl (0, [some (some 18), some (some 32), some (some 33), some (some 34), some (some 35), none, none])),
  .inl (.int, 7),
  .inl (.int, 7),
  .inl (.int, 3),
  .inl (.int, 3),
  .inr (.inl (0, [some (some 18), some (some 37), some (some 38), some (some 39), some (some 40), none, none])),
  .inl (.int, 7),
  .inl (.int, 7),
  .inl (.int, 3),
  .inl (.int, 3),
  .inr (.inl (4, [some (some 42), none, none])),
  .inr (.inr (.object "NotAnOx$Book", [some 43, some 48, some 53, some 58, some 63, some 68, some 73, some 78])),
  .inr (.inl (0, [some (some 18), some (some 44), some (some 45), some (some 46), some (some 47), none, none])),
  .inl (.int, 7),
  .inl (.int, 7),
  .inl (.int, 3),
  .inl (.int, 3),
  .inr (.inl (0, [some (some 18), some (some 49), some (some 50), some (some 51), some (some 52), none, none])),
  .inl (.int, 7),
  .inl (.int, 7),
  .inl (.int, 3),
  .inl (.int, 3),
  .inr (.inl (0, [some (some 18), some (some 54), some (some 55), some (some 56), some (some 57), none, none])),
  .inl (.int, 7),
  .inl (.int, 7),
  .inl (.int, 3),
  .inl (.int, 3),
  .inr (.inl (0, [some (some 18), some (some 59), some (some 60), some (some 61), some (some 62), none, none])),
  .inl (.int, 7),
  .inl (.int, 7),
  .inl (.int, 3),
  .inl (.int, 3),
  .inr (.inl (0, [some (some 18), some (some 64), some (some 65), some (some 66), some (some 67), none, none])),
  .inl (.int, 7),
  .inl (.int, 7),
  .inl (.int, 3),
  .inl (.int, 3),
  .inr (.inl (0, [some (some 18), some (some 69), some (some 70), some (some 71), some (some 72), none, none])),
  .inl (.int, 7),
  .inl (.int, 7),
  .inl (.int, 3),
  .inl (.int, 3),
  .inr (.inl (0, [some (some 18), some (some 74), some (some 75), some (some 76), some (some 77), none, none])),
  .inl (.int, 7),
  .inl (.int, 7),
  .inl (.int, 3),
  .inl (.int, 3),
  .inr (.inl (0, [some (some 18), some (some 79), some (some 80), some (some 81), some (some 82), none, none])),
  .inl (.int, 7),
  .inl (.int, 7),
  .inl (.int, 3),
  .inl (.int, 3),
  .inr (.inl (4, [some (some 84), none, none])),
  .inr (.inr (.object "NotAnOx$Book", [some 85, some 90])),
  .inr (.inl (0, [some (some 18), some (some 86), some (some 87), some (some 88), some (some 89), none, none])),
  .inl (.int, 7),
  .inl (.int, 7),
  .inl (.int, 3),
  .inl (.int, 3),
  .inr (.inl (0, [some (some 18), some (some 91), some (some 92), some (some 93), some (some 94), none, none])),
  .inl (.int, 7),
  .inl (.int, 7),
  .inl (.int, 3),
  .inl (.int, 3),
  .inr (.inl (8, [some (some 96), some (some 97), none])),
  .inl (.int, 6),
  .inl (.int, 6),
  .inr (.inl (7, [some (some 18), some (some 99), some (some 100), some (some 104), some (some 105), none])),
  .inl (.int, 896),
  .inr (.inr (.array .int, [some 101, some 102, some 103])),
  .inl (.int, 128),
  .inl (.int, 128),
  .inl (.int, 128),
  .inl (.int, 3),
  .inl (.int, 3),
  .inr (.inl (3, [some (some 18), some (some 107), some (some 108), some (some 109), none, none, none, none])),
  .inr (.inr (.object "NotAnOx$Book", [some 110, some 115, some 120, some 125, some 130, some 135, some 140, some 145])),
  .inl (.int, 7),
  .inl (.int, 7),
  .inr (.inl (0, [some (some 18), some (some 111), some (some 112), some (some 113), some (some 114), none, none])),
  .inl (.int, 7),
  .inl (.int, 7),
  .inl (.int, 3),
  .inl (.int, 3),
  .inr (.inl (0, [some (some 18), some (some 116), some (some 117), some (some 118), some (some 119), none, none])),
  .inl (.int, 7),
  .inl (.int, 7),
  .inl (.int, 3),
  .inl (.int, 3),
  .inr (.inl (0, [some (some 18), some (some 121), some (some 122), some (some 123), some (some 124), none, none])),
  .inl (.int, 7),
  .inl (.int, 7),
  .inl (.int, 3),
  .inl (.int, 3),
  .inr (.inl (0, [some (some 18), some (some 126), some (some 127), some (some 128), some (some 129), none, none])),
  .inl (.int, 7),
  .inl (.int, 7),
  .inl (.int, 3),
  .inl (.int, 3),
  .inr (.inl (0, [some (some 18), some (some 131), some (some 132), some (some 133), some (some 134), none, none])),
  .inl (.int, 7),
  .inl (.int, 7),
  .inl (.int, 3),
  .inl (.int, 3),
  .inr (.inl (0, [some (some 18), some (some 136), some (some 137), some (some 138), some (some 139), none, none])),
  .inl (.int, 7),
  .inl (.int, 7),
  .inl (.int, 3),
  .inl (.int, 3),
  .inr (.inl (0, [some (some 18), some (some 141), some (some 142), some (some 143), some (some 144), none, none])),
  .inl (.int, 7),
  .inl (.int, 7),
  .inl (.int, 3),
  .inl (.int, 3),
  .inr (.inl (0, [some (some 18), some (some 146), some (some 147), some (some 148), some (some 149), none, none])),
  .inl (.int, 7),
  .inl (.int, 7),
  .inl (.int, 3),
  .inl (.int, 3),
  .inr (.inl (1, [some (some 18), some (some 151), none, none])),
  .inr (.inl (0, [some (some 18), some (some 152), some (some 153), some (some 154), some (some 155), none, none])),
  .inl (.int, 7),
  .inl (.int, 7),
  .inl (.int, 3),
  .inl (.int, 3),
  .inr (.inl (10, [none, some (some 157), none, some (some 158), some (some 159), none, some (some 160), none, some (some 161), some (some 162), none, none, none, some (some 163), none, none, none, none, some (some 164), some (some 165), some (some 166), some (some 167), none, none, some (some 168), some (some 169)])),
  .inl (.int, 7),
  .inl (.int, 49),
  .inl (.int, 49),
  .inl (.int, 7),
  .inl (.int, 49),
  .inl (.int, 264),
  .inl (.byte, 200),
  .inl (.int, 6),
  .inl (.int, 6),
  .inl (.int, 896),
  .inl (.int, 384),
  .inl (.int, 7),
  .inl (.int, 7)]
theorem sh0 : SF[0]? = some (.inr (.inl (9, [some (some 1), some (some 3), some (some 5), some (some 18), some (some 31), some (some 36), some (some 41), some (some 83), some (some 95), some (some 98), some (some 106), some (some 150)]))) := rfl
theorem sh1 : SF[1]? = some (.inr (.inl (6, [some (some 2), none]))) := rfl
theorem sh2 : SF[2]? = some (.inl (.char, 200)) := rfl
theorem sh3 : SF[3]? = some (.inr (.inl (5, [some (some 4), none]))) := rfl
theorem sh4 : SF[4]? = some (.inl (.int, 3)) := rfl
theorem sh5 : SF[5]? = some (.inr (.inl (2, [some (some 6), some (some 7), some (some 8), some (some 9), some (some 10), none, none, none]))) := rfl
theorem sh6 : SF[6]? = some (.inl (.int, 7)) := rfl
theorem sh7 : SF[7]? = some (.inl (.int, 7)) := rfl
theorem sh8 : SF[8]? = some (.inl (.int, 3)) := rfl
theorem sh9 : SF[9]? = some (.inl (.int, 7)) := rfl
theorem sh10 : SF[10]? = some (.inr (.inr (.array .int, [some 11, some 12, some 13, some 14, some 15, some 16, some 17]))) := rfl
theorem sh11 : SF[11]? = some (.inl (.int, 7)) := rfl
theorem sh12 : SF[12]? = some (.inl (.int, 7)) := rfl
theorem sh13 : SF[13]? = some (.inl (.int, 7)) := rfl
theorem sh14 : SF[14]? = some (.inl (.int, 7)) := rfl
theorem sh15 : SF[15]? = some (.inl (.int, 7)) := rfl
theorem sh16 : SF[16]? = some (.inl (.int, 7)) := rfl
theorem sh17 : SF[17]? = some (.inl (.int, 7)) := rfl
theorem sh18 : SF[18]? = some (.inr (.inl (2, [some (some 19), some (some 20), some (some 21), some (some 22), some (some 23), none, none, none]))) := rfl
theorem sh19 : SF[19]? = some (.inl (.int, 7)) := rfl
theorem sh20 : SF[20]? = some (.inl (.int, 7)) := rfl
theorem sh21 : SF[21]? = some (.inl (.int, 3)) := rfl
theorem sh22 : SF[22]? = some (.inl (.int, 7)) := rfl
theorem sh23 : SF[23]? = some (.inr (.inr (.array .int, [some 24, some 25, some 26, some 27, some 28, some 29, some 30]))) := rfl
theorem sh24 : SF[24]? = some (.inl (.int, 7)) := rfl
theorem sh25 : SF[25]? = some (.inl (.int, 7)) := rfl
theorem sh26 : SF[26]? = some (.inl (.int, 7)) := rfl
theorem sh27 : SF[27]? = some (.inl (.int, 7)) := rfl
theorem sh28 : SF[28]? = some (.inl (.int, 7)) := rfl
theorem sh29 : SF[29]? = some (.inl (.int, 7)) := rfl
theorem sh30 : SF[30]? = some (.inl (.int, 7)) := rfl
theorem sh31 : SF[31]? = some (.inr (.inl (0, [some (some 18), some (some 32), some (some 33), some (some 34), some (some 35), none, none]))) := rfl
theorem sh32 : SF[32]? = some (.inl (.int, 7)) := rfl
theorem sh33 : SF[33]? = some (.inl (.int, 7)) := rfl
theorem sh34 : SF[34]? = some (.inl (.int, 3)) := rfl
theorem sh35 : SF[35]? = some (.inl (.int, 3)) := rfl
theorem sh36 : SF[36]? = some (.inr (.inl (0, [some (some 18), some (some 37), some (some 38), some (some 39), some (some 40), none, none]))) := rfl
theorem sh37 : SF[37]? = some (.inl (.int, 7)) := rfl
theorem sh38 : SF[38]? = some (.inl (.int, 7)) := rfl
theorem sh39 : SF[39]? = some (.inl (.int, 3)) := rfl
theorem sh40 : SF[40]? = some (.inl (.int, 3)) := rfl
theorem sh41 : SF[41]? = some (.inr (.inl (4, [some (some 42), none, none]))) := rfl
theorem sh42 : SF[42]? = some (.inr (.inr (.object "NotAnOx$Book", [some 43, some 48, some 53, some 58, some 63, some 68, some 73, some 78]))) := rfl
theorem sh43 : SF[43]? = some (.inr (.inl (0, [some (some 18), some (some 44), some (some 45), some (some 46), some (some 47), none, none]))) := rfl
theorem sh44 : SF[44]? = some (.inl (.int, 7)) := rfl
theorem sh45 : SF[45]? = some (.inl (.int, 7)) := rfl
theorem sh46 : SF[46]? = some (.inl (.int, 3)) := rfl
theorem sh47 : SF[47]? = some (.inl (.int, 3)) := rfl
theorem sh48 : SF[48]? = some (.inr (.inl (0, [some (some 18), some (some 49), some (some 50), some (some 51), some (some 52), none, none]))) := rfl
theorem sh49 : SF[49]? = some (.inl (.int, 7)) := rfl
theorem sh50 : SF[50]? = some (.inl (.int, 7)) := rfl
theorem sh51 : SF[51]? = some (.inl (.int, 3)) := rfl
theorem sh52 : SF[52]? = some (.inl (.int, 3)) := rfl
theorem sh53 : SF[53]? = some (.inr (.inl (0, [some (some 18), some (some 54), some (some 55), some (some 56), some (some 57), none, none]))) := rfl
theorem sh54 : SF[54]? = some (.inl (.int, 7)) := rfl
theorem sh55 : SF[55]? = some (.inl (.int, 7)) := rfl
theorem sh56 : SF[56]? = some (.inl (.int, 3)) := rfl
theorem sh57 : SF[57]? = some (.inl (.int, 3)) := rfl
theorem sh58 : SF[58]? = some (.inr (.inl (0, [some (some 18), some (some 59), some (some 60), some (some 61), some (some 62), none, none]))) := rfl
theorem sh59 : SF[59]? = some (.inl (.int, 7)) := rfl
theorem sh60 : SF[60]? = some (.inl (.int, 7)) := rfl
theorem sh61 : SF[61]? = some (.inl (.int, 3)) := rfl
theorem sh62 : SF[62]? = some (.inl (.int, 3)) := rfl
theorem sh63 : SF[63]? = some (.inr (.inl (0, [some (some 18), some (some 64), some (some 65), some (some 66), some (some 67), none, none]))) := rfl
theorem sh64 : SF[64]? = some (.inl (.int, 7)) := rfl
theorem sh65 : SF[65]? = some (.inl (.int, 7)) := rfl
theorem sh66 : SF[66]? = some (.inl (.int, 3)) := rfl
theorem sh67 : SF[67]? = some (.inl (.int, 3)) := rfl
theorem sh68 : SF[68]? = some (.inr (.inl (0, [some (some 18), some (some 69), some (some 70), some (some 71), some (some 72), none, none]))) := rfl
theorem sh69 : SF[69]? = some (.inl (.int, 7)) := rfl
theorem sh70 : SF[70]? = some (.inl (.int, 7)) := rfl
theorem sh71 : SF[71]? = some (.inl (.int, 3)) := rfl
theorem sh72 : SF[72]? = some (.inl (.int, 3)) := rfl
theorem sh73 : SF[73]? = some (.inr (.inl (0, [some (some 18), some (some 74), some (some 75), some (some 76), some (some 77), none, none]))) := rfl
theorem sh74 : SF[74]? = some (.inl (.int, 7)) := rfl
theorem sh75 : SF[75]? = some (.inl (.int, 7)) := rfl
theorem sh76 : SF[76]? = some (.inl (.int, 3)) := rfl
theorem sh77 : SF[77]? = some (.inl (.int, 3)) := rfl
theorem sh78 : SF[78]? = some (.inr (.inl (0, [some (some 18), some (some 79), some (some 80), some (some 81), some (some 82), none, none]))) := rfl
theorem sh79 : SF[79]? = some (.inl (.int, 7)) := rfl
theorem sh80 : SF[80]? = some (.inl (.int, 7)) := rfl
theorem sh81 : SF[81]? = some (.inl (.int, 3)) := rfl
theorem sh82 : SF[82]? = some (.inl (.int, 3)) := rfl
theorem sh83 : SF[83]? = some (.inr (.inl (4, [some (some 84), none, none]))) := rfl
theorem sh84 : SF[84]? = some (.inr (.inr (.object "NotAnOx$Book", [some 85, some 90]))) := rfl
theorem sh85 : SF[85]? = some (.inr (.inl (0, [some (some 18), some (some 86), some (some 87), some (some 88), some (some 89), none, none]))) := rfl
theorem sh86 : SF[86]? = some (.inl (.int, 7)) := rfl
theorem sh87 : SF[87]? = some (.inl (.int, 7)) := rfl
theorem sh88 : SF[88]? = some (.inl (.int, 3)) := rfl
theorem sh89 : SF[89]? = some (.inl (.int, 3)) := rfl
theorem sh90 : SF[90]? = some (.inr (.inl (0, [some (some 18), some (some 91), some (some 92), some (some 93), some (some 94), none, none]))) := rfl
theorem sh91 : SF[91]? = some (.inl (.int, 7)) := rfl
theorem sh92 : SF[92]? = some (.inl (.int, 7)) := rfl
theorem sh93 : SF[93]? = some (.inl (.int, 3)) := rfl
theorem sh94 : SF[94]? = some (.inl (.int, 3)) := rfl
theorem sh95 : SF[95]? = some (.inr (.inl (8, [some (some 96), some (some 97), none]))) := rfl
theorem sh96 : SF[96]? = some (.inl (.int, 6)) := rfl
theorem sh97 : SF[97]? = some (.inl (.int, 6)) := rfl
theorem sh98 : SF[98]? = some (.inr (.inl (7, [some (some 18), some (some 99), some (some 100), some (some 104), some (some 105), none]))) := rfl
theorem sh99 : SF[99]? = some (.inl (.int, 896)) := rfl
theorem sh100 : SF[100]? = some (.inr (.inr (.array .int, [some 101, some 102, some 103]))) := rfl
theorem sh101 : SF[101]? = some (.inl (.int, 128)) := rfl
theorem sh102 : SF[102]? = some (.inl (.int, 128)) := rfl
theorem sh103 : SF[103]? = some (.inl (.int, 128)) := rfl
theorem sh104 : SF[104]? = some (.inl (.int, 3)) := rfl
theorem sh105 : SF[105]? = some (.inl (.int, 3)) := rfl
theorem sh106 : SF[106]? = some (.inr (.inl (3, [some (some 18), some (some 107), some (some 108), some (some 109), none, none, none, none]))) := rfl
theorem sh107 : SF[107]? = some (.inr (.inr (.object "NotAnOx$Book", [some 110, some 115, some 120, some 125, some 130, some 135, some 140, some 145]))) := rfl
theorem sh108 : SF[108]? = some (.inl (.int, 7)) := rfl
theorem sh109 : SF[109]? = some (.inl (.int, 7)) := rfl
theorem sh110 : SF[110]? = some (.inr (.inl (0, [some (some 18), some (some 111), some (some 112), some (some 113), some (some 114), none, none]))) := rfl
theorem sh111 : SF[111]? = some (.inl (.int, 7)) := rfl
theorem sh112 : SF[112]? = some (.inl (.int, 7)) := rfl
theorem sh113 : SF[113]? = some (.inl (.int, 3)) := rfl
theorem sh114 : SF[114]? = some (.inl (.int, 3)) := rfl
theorem sh115 : SF[115]? = some (.inr (.inl (0, [some (some 18), some (some 116), some (some 117), some (some 118), some (some 119), none, none]))) := rfl
theorem sh116 : SF[116]? = some (.inl (.int, 7)) := rfl
theorem sh117 : SF[117]? = some (.inl (.int, 7)) := rfl
theorem sh118 : SF[118]? = some (.inl (.int, 3)) := rfl
theorem sh119 : SF[119]? = some (.inl (.int, 3)) := rfl
theorem sh120 : SF[120]? = some (.inr (.inl (0, [some (some 18), some (some 121), some (some 122), some (some 123), some (some 124), none, none]))) := rfl
theorem sh121 : SF[121]? = some (.inl (.int, 7)) := rfl
theorem sh122 : SF[122]? = some (.inl (.int, 7)) := rfl
theorem sh123 : SF[123]? = some (.inl (.int, 3)) := rfl
theorem sh124 : SF[124]? = some (.inl (.int, 3)) := rfl
theorem sh125 : SF[125]? = some (.inr (.inl (0, [some (some 18), some (some 126), some (some 127), some (some 128), some (some 129), none, none]))) := rfl
theorem sh126 : SF[126]? = some (.inl (.int, 7)) := rfl
theorem sh127 : SF[127]? = some (.inl (.int, 7)) := rfl
theorem sh128 : SF[128]? = some (.inl (.int, 3)) := rfl
theorem sh129 : SF[129]? = some (.inl (.int, 3)) := rfl
theorem sh130 : SF[130]? = some (.inr (.inl (0, [some (some 18), some (some 131), some (some 132), some (some 133), some (some 134), none, none]))) := rfl
theorem sh131 : SF[131]? = some (.inl (.int, 7)) := rfl
theorem sh132 : SF[132]? = some (.inl (.int, 7)) := rfl
theorem sh133 : SF[133]? = some (.inl (.int, 3)) := rfl
theorem sh134 : SF[134]? = some (.inl (.int, 3)) := rfl
theorem sh135 : SF[135]? = some (.inr (.inl (0, [some (some 18), some (some 136), some (some 137), some (some 138), some (some 139), none, none]))) := rfl
theorem sh136 : SF[136]? = some (.inl (.int, 7)) := rfl
theorem sh137 : SF[137]? = some (.inl (.int, 7)) := rfl
theorem sh138 : SF[138]? = some (.inl (.int, 3)) := rfl
theorem sh139 : SF[139]? = some (.inl (.int, 3)) := rfl
theorem sh140 : SF[140]? = some (.inr (.inl (0, [some (some 18), some (some 141), some (some 142), some (some 143), some (some 144), none, none]))) := rfl
theorem sh141 : SF[141]? = some (.inl (.int, 7)) := rfl
theorem sh142 : SF[142]? = some (.inl (.int, 7)) := rfl
theorem sh143 : SF[143]? = some (.inl (.int, 3)) := rfl
theorem sh144 : SF[144]? = some (.inl (.int, 3)) := rfl
theorem sh145 : SF[145]? = some (.inr (.inl (0, [some (some 18), some (some 146), some (some 147), some (some 148), some (some 149), none, none]))) := rfl
theorem sh146 : SF[146]? = some (.inl (.int, 7)) := rfl
theorem sh147 : SF[147]? = some (.inl (.int, 7)) := rfl
theorem sh148 : SF[148]? = some (.inl (.int, 3)) := rfl
theorem sh149 : SF[149]? = some (.inl (.int, 3)) := rfl
theorem sh150 : SF[150]? = some (.inr (.inl (1, [some (some 18), some (some 151), none, none]))) := rfl
theorem sh151 : SF[151]? = some (.inr (.inl (0, [some (some 18), some (some 152), some (some 153), some (some 154), some (some 155), none, none]))) := rfl
theorem sh152 : SF[152]? = some (.inl (.int, 7)) := rfl
theorem sh153 : SF[153]? = some (.inl (.int, 7)) := rfl
theorem sh154 : SF[154]? = some (.inl (.int, 3)) := rfl
theorem sh155 : SF[155]? = some (.inl (.int, 3)) := rfl
theorem sh156 : SF[156]? = some (.inr (.inl (10, [none, some (some 157), none, some (some 158), some (some 159), none, some (some 160), none, some (some 161), some (some 162), none, none, none, some (some 163), none, none, none, none, some (some 164), some (some 165), some (some 166), some (some 167), none, none, some (some 168), some (some 169)]))) := rfl
theorem sh157 : SF[157]? = some (.inl (.int, 7)) := rfl
theorem sh158 : SF[158]? = some (.inl (.int, 49)) := rfl
theorem sh159 : SF[159]? = some (.inl (.int, 49)) := rfl
theorem sh160 : SF[160]? = some (.inl (.int, 7)) := rfl
theorem sh161 : SF[161]? = some (.inl (.int, 49)) := rfl
theorem sh162 : SF[162]? = some (.inl (.int, 264)) := rfl
theorem sh163 : SF[163]? = some (.inl (.byte, 200)) := rfl
theorem sh164 : SF[164]? = some (.inl (.int, 6)) := rfl
theorem sh165 : SF[165]? = some (.inl (.int, 6)) := rfl
theorem sh166 : SF[166]? = some (.inl (.int, 896)) := rfl
theorem sh167 : SF[167]? = some (.inl (.int, 384)) := rfl
theorem sh168 : SF[168]? = some (.inl (.int, 7)) := rfl
theorem sh169 : SF[169]? = some (.inl (.int, 7)) := rfl
def bkL : List Nat := [31, 36, 43, 48, 53, 58, 63, 68, 73, 78, 85, 90, 110, 115, 120, 125, 130, 135, 140, 145, 151]
theorem bk_all : ∀ c ∈ bkL, SF[c]? = some (.inr (.inl (0, [some (some 18), some (some (c + 1)), some (some (c + 2)), some (some (c + 3)), some (some (c + 4)), none, none]))) ∧ SF[c + 1]? = some (.inl (.int, 7)) ∧ SF[c + 2]? = some (.inl (.int, 7)) ∧ SF[c + 3]? = some (.inl (.int, 3)) ∧ SF[c + 4]? = some (.inl (.int, 3)) ∧ 30 < c ∧ c < 152 := by
  unfold bkL
  repeat' (first | exact fun _ h => absurd h List.not_mem_nil | refine List.forall_mem_cons.mpr ⟨⟨rfl, rfl, rfl, rfl, rfl, by decide, by decide⟩, ?_⟩)
/-- c is a Book -/
def isBk (c : Nat) : Prop := c ∈ bkL
theorem bk0 {c : Nat} (h : isBk c) : SF[c]? = some (.inr (.inl (0, [some (some 18), some (some (c + 1)), some (some (c + 2)), some (some (c + 3)), some (some (c + 4)), none, none]))) := (bk_all c h).1
theorem bk1 {c : Nat} (h : isBk c) : SF[c + 1]? = some (.inl (.int, 7)) := (bk_all c h).2.1
theorem bk2 {c : Nat} (h : isBk c) : SF[c + 2]? = some (.inl (.int, 7)) := (bk_all c h).2.2.1
theorem bk3 {c : Nat} (h : isBk c) : SF[c + 3]? = some (.inl (.int, 3)) := (bk_all c h).2.2.2.1
theorem bk4 {c : Nat} (h : isBk c) : SF[c + 4]? = some (.inl (.int, 3)) := (bk_all c h).2.2.2.2.1
theorem bkR {c : Nat} (h : isBk c) : 30 < c ∧ c < 152 := (bk_all c h).2.2.2.2.2
/-- two Books lie apart -/
theorem bk_apart : ∀ c ∈ bkL, ∀ e ∈ bkL, c = e ∨ c + 5 ≤ e ∨ e + 5 ≤ c := by decide +kernel
/-- a Book's cells are its own -/
theorem bk_off : ∀ c ∈ bkL, ∀ q ∈ [41, 42, 83, 84, 95, 96, 97, 98, 99, 100, 101, 102, 103, 104, 105, 106, 107, 108, 109, 150], q < c ∨ c + 4 < q := by decide +kernel
/-- c is a Land -/
def isLd (c : Nat) : Prop := c = 5 ∨ c = 18
theorem ld0 {c : Nat} (h : isLd c) : SF[c]? = some (.inr (.inl (2, [some (some (c + 1)), some (some (c + 2)), some (some (c + 3)), some (some (c + 4)), some (some (c + 5)), none, none, none]))) := by rcases h with rfl | rfl <;> rfl
theorem ld1 {c : Nat} (h : isLd c) : SF[c + 1]? = some (.inl (.int, 7)) := by rcases h with rfl | rfl <;> rfl
theorem ld2 {c : Nat} (h : isLd c) : SF[c + 2]? = some (.inl (.int, 7)) := by rcases h with rfl | rfl <;> rfl
theorem ld3 {c : Nat} (h : isLd c) : SF[c + 3]? = some (.inl (.int, 3)) := by rcases h with rfl | rfl <;> rfl
theorem ld4 {c : Nat} (h : isLd c) : SF[c + 4]? = some (.inl (.int, 7)) := by rcases h with rfl | rfl <;> rfl
theorem ld5 {c : Nat} (h : isLd c) : SF[c + 5]? = some (.inr (.inr (.array .int, [some (c + 6), some (c + 7), some (c + 8), some (c + 9), some (c + 10), some (c + 11), some (c + 12)]))) := by rcases h with rfl | rfl <;> rfl
theorem ldr {c : Nat} (h : isLd c) : ∀ a, a < 7 → SF[c + 6 + a]? = some (.inl (.int, 7)) := by
  intro a ha
  rcases (show a = 0 ∨ a = 1 ∨ a = 2 ∨ a = 3 ∨ a = 4 ∨ a = 5 ∨ a = 6 by omega) with rfl | rfl | rfl | rfl | rfl | rfl | rfl <;> rcases h with rfl | rfl <;> rfl
