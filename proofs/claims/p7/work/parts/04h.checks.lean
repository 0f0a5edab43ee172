/-! every method's words stand in the tables -/
theorem xm_c0 : xm_mchk 0 = true := by decide +kernel
theorem xm_c1 : xm_mchk 1 = true := by decide +kernel
theorem xm_c2 : xm_mchk 2 = true := by decide +kernel
theorem xm_c3 : xm_mchk 3 = true := by decide +kernel
theorem xm_c4 : xm_mchk 4 = true := by decide +kernel
theorem xm_c5 : xm_mchk 5 = true := by decide +kernel
theorem xm_c6 : xm_mchk 6 = true := by decide +kernel
theorem xm_c7 : xm_mchk 7 = true := by decide +kernel
theorem xm_c8 : xm_mchk 8 = true := by decide +kernel
theorem xm_c9 : xm_mchk 9 = true := by decide +kernel
theorem xm_c10 : xm_mchk 10 = true := by decide +kernel
theorem xm_c11 : xm_mchk 11 = true := by decide +kernel
theorem xm_c12 : xm_mchk 12 = true := by decide +kernel
theorem xm_c13 : xm_mchk 13 = true := by decide +kernel
theorem xm_c14 : xm_mchk 14 = true := by decide +kernel
theorem xm_c15 : xm_mchk 15 = true := by decide +kernel
theorem xm_c16 : xm_mchk 16 = true := by decide +kernel
theorem xm_c17 : xm_mchk 17 = true := by decide +kernel
theorem xm_c18 : xm_mchk 18 = true := by decide +kernel
theorem xm_c19 : xm_mchk 19 = true := by decide +kernel
theorem xm_c20 : xm_mchk 20 = true := by decide +kernel
theorem xm_c21 : xm_mchk 21 = true := by decide +kernel
theorem xm_c22 : xm_mchk 22 = true := by decide +kernel
theorem xm_c23 : xm_mchk 23 = true := by decide +kernel
theorem xm_c24 : xm_mchk 24 = true := by decide +kernel
theorem xm_c25 : xm_mchk 25 = true := by decide +kernel
theorem xm_c26 : xm_mchk 26 = true := by decide +kernel
theorem xm_c27 : xm_mchk 27 = true := by decide +kernel
theorem xm_c28 : xm_mchk 28 = true := by decide +kernel
theorem xm_c29 : xm_mchk 29 = true := by decide +kernel
theorem xm_c30 : xm_mchk 30 = true := by decide +kernel
theorem xm_c31 : xm_mchk 31 = true := by decide +kernel
theorem xm_c32 : xm_mchk 32 = true := by decide +kernel
theorem xm_c33 : xm_mchk 33 = true := by decide +kernel
theorem xm_c34 : xm_mchk 34 = true := by decide +kernel
theorem xm_c35 : xm_mchk 35 = true := by decide +kernel
theorem xm_c36 : xm_mchk 36 = true := by decide +kernel
theorem xm_c37 : xm_mchk 37 = true := by decide +kernel
theorem xm_c38 : xm_mchk 38 = true := by decide +kernel
theorem xm_c39 : xm_mchk 39 = true := by decide +kernel
theorem xm_c40 : xm_mchk 40 = true := by decide +kernel
theorem xm_c41 : xm_mchk 41 = true := by decide +kernel
theorem xm_c42 : xm_mchk 42 = true := by decide +kernel
theorem xm_c43 : xm_mchk 43 = true := by decide +kernel
theorem xm_c44 : xm_mchk 44 = true := by decide +kernel
theorem xm_c45 : xm_mchk 45 = true := by decide +kernel
theorem xm_c46 : xm_mchk 46 = true := by decide +kernel
theorem xm_c47 : xm_mchk 47 = true := by decide +kernel
theorem xm_c48 : xm_mchk 48 = true := by decide +kernel
theorem xm_c49 : xm_mchk 49 = true := by decide +kernel
theorem xm_c50 : xm_mchk 50 = true := by decide +kernel
theorem xm_c51 : xm_mchk 51 = true := by decide +kernel
theorem xm_c52 : xm_mchk 52 = true := by decide +kernel
theorem xm_c53 : xm_mchk 53 = true := by decide +kernel
theorem xm_c54 : xm_mchk 54 = true := by decide +kernel
theorem xm_c55 : xm_mchk 55 = true := by decide +kernel
theorem xm_c56 : xm_mchk 56 = true := by decide +kernel
theorem xm_c57 : xm_mchk 57 = true := by decide +kernel
theorem xm_c58 : xm_mchk 58 = true := by decide +kernel
theorem xm_c59 : xm_mchk 59 = true := by decide +kernel
theorem xm_c60 : xm_mchk 60 = true := by decide +kernel
theorem xm_c61 : xm_mchk 61 = true := by decide +kernel
theorem xm_c62 : xm_mchk 62 = true := by decide +kernel
theorem xm_c63 : xm_mchk 63 = true := by decide +kernel
theorem xm_c64 : xm_mchk 64 = true := by decide +kernel
theorem xm_c65 : xm_mchk 65 = true := by decide +kernel
theorem xm_c66 : xm_mchk 66 = true := by decide +kernel
theorem xm_c67 : xm_mchk 67 = true := by decide +kernel
theorem xm_c68 : xm_mchk 68 = true := by decide +kernel
theorem xm_c69 : xm_mchk 69 = true := by decide +kernel
theorem xm_c70 : xm_mchk 70 = true := by decide +kernel
theorem xm_c71 : xm_mchk 71 = true := by decide +kernel
theorem xm_c72 : xm_mchk 72 = true := by decide +kernel
theorem xm_c73 : xm_mchk 73 = true := by decide +kernel
theorem xm_c74 : xm_mchk 74 = true := by decide +kernel
theorem xm_c75 : xm_mchk 75 = true := by decide +kernel
theorem xm_c76 : xm_mchk 76 = true := by decide +kernel
theorem xm_c77 : xm_mchk 77 = true := by decide +kernel
theorem xm_c78 : xm_mchk 78 = true := by decide +kernel
theorem xm_c79 : xm_mchk 79 = true := by decide +kernel
theorem xm_c80 : xm_mchk 80 = true := by decide +kernel
theorem xm_c81 : xm_mchk 81 = true := by decide +kernel
theorem xm_c82 : xm_mchk 82 = true := by decide +kernel
theorem xm_c83 : xm_mchk 83 = true := by decide +kernel
theorem xm_c84 : xm_mchk 84 = true := by decide +kernel
theorem xm_c85 : xm_mchk 85 = true := by decide +kernel
theorem xm_c86 : xm_mchk 86 = true := by decide +kernel
theorem xm_c87 : xm_mchk 87 = true := by decide +kernel
theorem xm_c88 : xm_mchk 88 = true := by decide +kernel
theorem xm_c89 : xm_mchk 89 = true := by decide +kernel
theorem xm_c90 : xm_mchk 90 = true := by decide +kernel
theorem xm_c91 : xm_mchk 91 = true := by decide +kernel
theorem xm_c92 : xm_mchk 92 = true := by decide +kernel
theorem xm_c93 : xm_mchk 93 = true := by decide +kernel
theorem xm_c94 : xm_mchk 94 = true := by decide +kernel
theorem xm_c95 : xm_mchk 95 = true := by decide +kernel
theorem xm_c96 : xm_mchk 96 = true := by decide +kernel
theorem xm_c97 : xm_mchk 97 = true := by decide +kernel
theorem xm_c98 : xm_mchk 98 = true := by decide +kernel
theorem xm_c99 : xm_mchk 99 = true := by decide +kernel
theorem xm_c100 : xm_mchk 100 = true := by decide +kernel
theorem xm_c101 : xm_mchk 101 = true := by decide +kernel
theorem xm_c102 : xm_mchk 102 = true := by decide +kernel
theorem xm_c103 : xm_mchk 103 = true := by decide +kernel
theorem xm_c104 : xm_mchk 104 = true := by decide +kernel
theorem xm_c105 : xm_mchk 105 = true := by decide +kernel
theorem xm_c106 : xm_mchk 106 = true := by decide +kernel
theorem xm_c107 : xm_mchk 107 = true := by decide +kernel
theorem xm_c108 : xm_mchk 108 = true := by decide +kernel
theorem xm_c109 : xm_mchk 109 = true := by decide +kernel
theorem xm_c110 : xm_mchk 110 = true := by decide +kernel
theorem xm_c111 : xm_mchk 111 = true := by decide +kernel
theorem xm_c112 : xm_mchk 112 = true := by decide +kernel
theorem xm_c113 : xm_mchk 113 = true := by decide +kernel
theorem xm_c114 : xm_mchk 114 = true := by decide +kernel
theorem xm_c115 : xm_mchk 115 = true := by decide +kernel
theorem xm_c116 : xm_mchk 116 = true := by decide +kernel
theorem xm_c117 : xm_mchk 117 = true := by decide +kernel
theorem xm_c118 : xm_mchk 118 = true := by decide +kernel
theorem xm_c119 : xm_mchk 119 = true := by decide +kernel
theorem xm_c120 : xm_mchk 120 = true := by decide +kernel
theorem xm_c121 : xm_mchk 121 = true := by decide +kernel
theorem xm_c122 : xm_mchk 122 = true := by decide +kernel
theorem xm_c123 : xm_mchk 123 = true := by decide +kernel
theorem xm_c124 : xm_mchk 124 = true := by decide +kernel
theorem xm_c125 : xm_mchk 125 = true := by decide +kernel
theorem xm_c126 : xm_mchk 126 = true := by decide +kernel
theorem xm_c127 : xm_mchk 127 = true := by decide +kernel
theorem xm_c128 : xm_mchk 128 = true := by decide +kernel
theorem xm_c129 : xm_mchk 129 = true := by decide +kernel
theorem xm_c130 : xm_mchk 130 = true := by decide +kernel
theorem xm_c131 : xm_mchk 131 = true := by decide +kernel
theorem xm_c132 : xm_mchk 132 = true := by decide +kernel
theorem xm_c133 : xm_mchk 133 = true := by decide +kernel
theorem xm_c134 : xm_mchk 134 = true := by decide +kernel
theorem xm_c135 : xm_mchk 135 = true := by decide +kernel
theorem xm_c136 : xm_mchk 136 = true := by decide +kernel
theorem xm_c137 : xm_mchk 137 = true := by decide +kernel
theorem xm_c138 : xm_mchk 138 = true := by decide +kernel
theorem xm_c139 : xm_mchk 139 = true := by decide +kernel
theorem xm_c140 : xm_mchk 140 = true := by decide +kernel
theorem xm_c141 : xm_mchk 141 = true := by decide +kernel
theorem xm_c142 : xm_mchk 142 = true := by decide +kernel
theorem xm_c143 : xm_mchk 143 = true := by decide +kernel
theorem xm_c144 : xm_mchk 144 = true := by decide +kernel
theorem xm_c145 : xm_mchk 145 = true := by decide +kernel
theorem xm_c146 : xm_mchk 146 = true := by decide +kernel
theorem xm_c147 : xm_mchk 147 = true := by decide +kernel
theorem xm_c148 : xm_mchk 148 = true := by decide +kernel
theorem xm_c149 : xm_mchk 149 = true := by decide +kernel
theorem xm_c150 : xm_mchk 150 = true := by decide +kernel
theorem xm_c151 : xm_mchk 151 = true := by decide +kernel
theorem xm_c152 : xm_mchk 152 = true := by decide +kernel
theorem xm_c153 : xm_mchk 153 = true := by decide +kernel
theorem xm_mall : ∀ y, y < xm_N - 1 → xm_mchk y = true := by
  intro y hy
  match y, hy with
  | 0, _ => exact xm_c0
  | 1, _ => exact xm_c1
  | 2, _ => exact xm_c2
  | 3, _ => exact xm_c3
  | 4, _ => exact xm_c4
  | 5, _ => exact xm_c5
  | 6, _ => exact xm_c6
  | 7, _ => exact xm_c7
  | 8, _ => exact xm_c8
  | 9, _ => exact xm_c9
  | 10, _ => exact xm_c10
  | 11, _ => exact xm_c11
  | 12, _ => exact xm_c12
  | 13, _ => exact xm_c13
  | 14, _ => exact xm_c14
  | 15, _ => exact xm_c15
  | 16, _ => exact xm_c16
  | 17, _ => exact xm_c17
  | 18, _ => exact xm_c18
  | 19, _ => exact xm_c19
  | 20, _ => exact xm_c20
  | 21, _ => exact xm_c21
  | 22, _ => exact xm_c22
  | 23, _ => exact xm_c23
  | 24, _ => exact xm_c24
  | 25, _ => exact xm_c25
  | 26, _ => exact xm_c26
  | 27, _ => exact xm_c27
  | 28, _ => exact xm_c28
  | 29, _ => exact xm_c29
  | 30, _ => exact xm_c30
  | 31, _ => exact xm_c31
  | 32, _ => exact xm_c32
  | 33, _ => exact xm_c33
  | 34, _ => exact xm_c34
  | 35, _ => exact xm_c35
  | 36, _ => exact xm_c36
  | 37, _ => exact xm_c37
  | 38, _ => exact xm_c38
  | 39, _ => exact xm_c39
  | 40, _ => exact xm_c40
  | 41, _ => exact xm_c41
  | 42, _ => exact xm_c42
  | 43, _ => exact xm_c43
  | 44, _ => exact xm_c44
  | 45, _ => exact xm_c45
  | 46, _ => exact xm_c46
  | 47, _ => exact xm_c47
  | 48, _ => exact xm_c48
  | 49, _ => exact xm_c49
  | 50, _ => exact xm_c50
  | 51, _ => exact xm_c51
  | 52, _ => exact xm_c52
  | 53, _ => exact xm_c53
  | 54, _ => exact xm_c54
  | 55, _ => exact xm_c55
  | 56, _ => exact xm_c56
  | 57, _ => exact xm_c57
  | 58, _ => exact xm_c58
  | 59, _ => exact xm_c59
  | 60, _ => exact xm_c60
  | 61, _ => exact xm_c61
  | 62, _ => exact xm_c62
  | 63, _ => exact xm_c63
  | 64, _ => exact xm_c64
  | 65, _ => exact xm_c65
  | 66, _ => exact xm_c66
  | 67, _ => exact xm_c67
  | 68, _ => exact xm_c68
  | 69, _ => exact xm_c69
  | 70, _ => exact xm_c70
  | 71, _ => exact xm_c71
  | 72, _ => exact xm_c72
  | 73, _ => exact xm_c73
  | 74, _ => exact xm_c74
  | 75, _ => exact xm_c75
  | 76, _ => exact xm_c76
  | 77, _ => exact xm_c77
  | 78, _ => exact xm_c78
  | 79, _ => exact xm_c79
  | 80, _ => exact xm_c80
  | 81, _ => exact xm_c81
  | 82, _ => exact xm_c82
  | 83, _ => exact xm_c83
  | 84, _ => exact xm_c84
  | 85, _ => exact xm_c85
  | 86, _ => exact xm_c86
  | 87, _ => exact xm_c87
  | 88, _ => exact xm_c88
  | 89, _ => exact xm_c89
  | 90, _ => exact xm_c90
  | 91, _ => exact xm_c91
  | 92, _ => exact xm_c92
  | 93, _ => exact xm_c93
  | 94, _ => exact xm_c94
  | 95, _ => exact xm_c95
  | 96, _ => exact xm_c96
  | 97, _ => exact xm_c97
  | 98, _ => exact xm_c98
  | 99, _ => exact xm_c99
  | 100, _ => exact xm_c100
  | 101, _ => exact xm_c101
  | 102, _ => exact xm_c102
  | 103, _ => exact xm_c103
  | 104, _ => exact xm_c104
  | 105, _ => exact xm_c105
  | 106, _ => exact xm_c106
  | 107, _ => exact xm_c107
  | 108, _ => exact xm_c108
  | 109, _ => exact xm_c109
  | 110, _ => exact xm_c110
  | 111, _ => exact xm_c111
  | 112, _ => exact xm_c112
  | 113, _ => exact xm_c113
  | 114, _ => exact xm_c114
  | 115, _ => exact xm_c115
  | 116, _ => exact xm_c116
  | 117, _ => exact xm_c117
  | 118, _ => exact xm_c118
  | 119, _ => exact xm_c119
  | 120, _ => exact xm_c120
  | 121, _ => exact xm_c121
  | 122, _ => exact xm_c122
  | 123, _ => exact xm_c123
  | 124, _ => exact xm_c124
  | 125, _ => exact xm_c125
  | 126, _ => exact xm_c126
  | 127, _ => exact xm_c127
  | 128, _ => exact xm_c128
  | 129, _ => exact xm_c129
  | 130, _ => exact xm_c130
  | 131, _ => exact xm_c131
  | 132, _ => exact xm_c132
  | 133, _ => exact xm_c133
  | 134, _ => exact xm_c134
  | 135, _ => exact xm_c135
  | 136, _ => exact xm_c136
  | 137, _ => exact xm_c137
  | 138, _ => exact xm_c138
  | 139, _ => exact xm_c139
  | 140, _ => exact xm_c140
  | 141, _ => exact xm_c141
  | 142, _ => exact xm_c142
  | 143, _ => exact xm_c143
  | 144, _ => exact xm_c144
  | 145, _ => exact xm_c145
  | 146, _ => exact xm_c146
  | 147, _ => exact xm_c147
  | 148, _ => exact xm_c148
  | 149, _ => exact xm_c149
  | 150, _ => exact xm_c150
  | 151, _ => exact xm_c151
  | 152, _ => exact xm_c152
  | 153, _ => exact xm_c153
  | n + 154, h => exact absurd h (by simp only [xm_N]; omega)
