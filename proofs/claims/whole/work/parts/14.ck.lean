theorem ck_m138 : ab_cm 138 = true := by decide +kernel
theorem ck_m139 : ab_cm 139 = true := by decide +kernel
theorem ck_m140 : ab_cm 140 = true := by decide +kernel
theorem ck_m141 : ab_cm 141 = true := by decide +kernel
theorem ck_m142 : ab_cm 142 = true := by decide +kernel
theorem ck_m143 : ab_cm 143 = true := by decide +kernel
theorem ck_m144 : ab_cm 144 = true := by decide +kernel
theorem ck_m145 : ab_cm 145 = true := by decide +kernel
theorem ck_m146 : ab_cm 146 = true := by decide +kernel
theorem ck_m147 : ab_cm 147 = true := by decide +kernel
theorem ck_m148 : ab_cm 148 = true := by decide +kernel
theorem ck_m149 : ab_cm 149 = true := by decide +kernel
theorem ck_m150 : ab_cm 150 = true := by decide +kernel
theorem ck_m151 : ab_cm 151 = true := by decide +kernel
theorem ck_m152 : ab_cm 152 = true := by decide +kernel
theorem ck_m153 : ab_cm 153 = true := by decide +kernel
theorem ck_m154 : ab_cm 154 = true := by decide +kernel
theorem ck_m155 : ab_cm 155 = true := by decide +kernel
theorem ck_m156 : ab_cm 156 = true := by decide +kernel
theorem ck_m157 : ab_cm 157 = true := by decide +kernel
theorem ck_m158 : ab_cm 158 = true := by decide +kernel
theorem ck_m159 : ab_cm 159 = true := by decide +kernel
theorem ck_m160 : ab_cm 160 = true := by decide +kernel
theorem ck_m161 : ab_cm 161 = true := by decide +kernel
theorem ck_m162 : ab_cm 162 = true := by decide +kernel
theorem ck_m163 : ab_cm 163 = true := by decide +kernel
theorem ck_m164 : ab_cm 164 = true := by decide +kernel
theorem ck_m165 : ab_cm 165 = true := by decide +kernel
theorem ck_m166 : ab_cm 166 = true := by decide +kernel
theorem ck_m167 : ab_cm 167 = true := by decide +kernel
theorem ck_m168 : ab_cm 168 = true := by decide +kernel
theorem ck_m169 : ab_cm 169 = true := by decide +kernel
theorem ck_m170 : ab_cm 170 = true := by decide +kernel
theorem ck_m171 : ab_cm 171 = true := by decide +kernel
theorem ck_m172 : ab_cm 172 = true := by decide +kernel
theorem ck_m173 : ab_cm 173 = true := by decide +kernel
theorem ck_m174 : ab_cm 174 = true := by decide +kernel
theorem ck_m175 : ab_cm 175 = true := by decide +kernel
theorem ck_m176 : ab_cm 176 = true := by decide +kernel
theorem ck_m177 : ab_cm 177 = true := by decide +kernel
theorem ck_m178 : ab_cm 178 = true := by decide +kernel
theorem ck_m179 : ab_cm 179 = true := by decide +kernel
theorem ck_m180 : ab_cm 180 = true := by decide +kernel
theorem ck_m (M : Nat) (h : M < tb_nm) : ab_cm M = true := match M, h with
  | 0, _ => ck_m0
  | 1, _ => ck_m1
  | 2, _ => ck_m2
  | 3, _ => ck_m3
  | 4, _ => ck_m4
  | 5, _ => ck_m5
  | 6, _ => ck_m6
  | 7, _ => ck_m7
  | 8, _ => ck_m8
  | 9, _ => ck_m9
  | 10, _ => ck_m10
  | 11, _ => ck_m11
  | 12, _ => ck_m12
  | 13, _ => ck_m13
  | 14, _ => ck_m14
  | 15, _ => ck_m15
  | 16, _ => ck_m16
  | 17, _ => ck_m17
  | 18, _ => ck_m18
  | 19, _ => ck_m19
  | 20, _ => ck_m20
  | 21, _ => ck_m21
  | 22, _ => ck_m22
  | 23, _ => ck_m23
  | 24, _ => ck_m24
  | 25, _ => ck_m25
  | 26, _ => ck_m26
  | 27, _ => ck_m27
  | 28, _ => ck_m28
  | 29, _ => ck_m29
  | 30, _ => ck_m30
  | 31, _ => ck_m31
  | 32, _ => ck_m32
  | 33, _ => ck_m33
  | 34, _ => ck_m34
  | 35, _ => ck_m35
  | 36, _ => ck_m36
  | 37, _ => ck_m37
  | 38, _ => ck_m38
  | 39, _ => ck_m39
  | 40, _ => ck_m40
  | 41, _ => ck_m41
  | 42, _ => ck_m42
  | 43, _ => ck_m43
  | 44, _ => ck_m44
  | 45, _ => ck_m45
  | 46, _ => ck_m46
  | 47, _ => ck_m47
  | 48, _ => ck_m48
  | 49, _ => ck_m49
  | 50, _ => ck_m50
  | 51, _ => ck_m51
  | 52, _ => ck_m52
  | 53, _ => ck_m53
  | 54, _ => ck_m54
  | 55, _ => ck_m55
  | 56, _ => ck_m56
  | 57, _ => ck_m57
  | 58, _ => ck_m58
  | 59, _ => ck_m59
  | 60, _ => ck_m60
  | 61, _ => ck_m61
  | 62, _ => ck_m62
  | 63, _ => ck_m63
  | 64, _ => ck_m64
  | 65, _ => ck_m65
  | 66, _ => ck_m66
  | 67, _ => ck_m67
  | 68, _ => ck_m68
  | 69, _ => ck_m69
  | 70, _ => ck_m70
  | 71, _ => ck_m71
  | 72, _ => ck_m72
  | 73, _ => ck_m73
  | 74, _ => ck_m74
  | 75, _ => ck_m75
  | 76, _ => ck_m76
  | 77, _ => ck_m77
  | 78, _ => ck_m78
  | 79, _ => ck_m79
  | 80, _ => ck_m80
  | 81, _ => ck_m81
  | 82, _ => ck_m82
  | 83, _ => ck_m83
  | 84, _ => ck_m84
  | 85, _ => ck_m85
  | 86, _ => ck_m86
  | 87, _ => ck_m87
  | 88, _ => ck_m88
  | 89, _ => ck_m89
  | 90, _ => ck_m90
  | 91, _ => ck_m91
  | 92, _ => ck_m92
  | 93, _ => ck_m93
  | 94, _ => ck_m94
  | 95, _ => ck_m95
  | 96, _ => ck_m96
  | 97, _ => ck_m97
  | 98, _ => ck_m98
  | 99, _ => ck_m99
  | 100, _ => ck_m100
  | 101, _ => ck_m101
  | 102, _ => ck_m102
  | 103, _ => ck_m103
  | 104, _ => ck_m104
  | 105, _ => ck_m105
  | 106, _ => ck_m106
  | 107, _ => ck_m107
  | 108, _ => ck_m108
  | 109, _ => ck_m109
  | 110, _ => ck_m110
  | 111, _ => ck_m111
  | 112, _ => ck_m112
  | 113, _ => ck_m113
  | 114, _ => ck_m114
  | 115, _ => ck_m115
  | 116, _ => ck_m116
  | 117, _ => ck_m117
  | 118, _ => ck_m118
  | 119, _ => ck_m119
  | 120, _ => ck_m120
  | 121, _ => ck_m121
  | 122, _ => ck_m122
  | 123, _ => ck_m123
  | 124, _ => ck_m124
  | 125, _ => ck_m125
  | 126, _ => ck_m126
  | 127, _ => ck_m127
  | 128, _ => ck_m128
  | 129, _ => ck_m129
  | 130, _ => ck_m130
  | 131, _ => ck_m131
  | 132, _ => ck_m132
  | 133, _ => ck_m133
  | 134, _ => ck_m134
  | 135, _ => ck_m135
  | 136, _ => ck_m136
  | 137, _ => ck_m137
  | 138, _ => ck_m138
  | 139, _ => ck_m139
  | 140, _ => ck_m140
  | 141, _ => ck_m141
  | 142, _ => ck_m142
  | 143, _ => ck_m143
  | 144, _ => ck_m144
  | 145, _ => ck_m145
  | 146, _ => ck_m146
  | 147, _ => ck_m147
  | 148, _ => ck_m148
  | 149, _ => ck_m149
  | 150, _ => ck_m150
  | 151, _ => ck_m151
  | 152, _ => ck_m152
  | 153, _ => ck_m153
  | 154, _ => ck_m154
  | 155, _ => ck_m155
  | 156, _ => ck_m156
  | 157, _ => ck_m157
  | 158, _ => ck_m158
  | 159, _ => ck_m159
  | 160, _ => ck_m160
  | 161, _ => ck_m161
  | 162, _ => ck_m162
  | 163, _ => ck_m163
  | 164, _ => ck_m164
  | 165, _ => ck_m165
  | 166, _ => ck_m166
  | 167, _ => ck_m167
  | 168, _ => ck_m168
  | 169, _ => ck_m169
  | 170, _ => ck_m170
  | 171, _ => ck_m171
  | 172, _ => ck_m172
  | 173, _ => ck_m173
  | 174, _ => ck_m174
  | 175, _ => ck_m175
  | 176, _ => ck_m176
  | 177, _ => ck_m177
  | 178, _ => ck_m178
  | 179, _ => ck_m179
  | 180, _ => ck_m180
  | n + 181, h => absurd h (by unfold tb_nm; omega)
