theorem mj_ok_all : ∀ m, m < 188 → mj_ok m = true := by
  intro m hm
  · rcases Nat.lt_or_ge m 94 with h1 | h1
    · rcases Nat.lt_or_ge m 47 with h2 | h2
      · rcases Nat.lt_or_ge m 23 with h3 | h3
        · rcases Nat.lt_or_ge m 11 with h4 | h4
          · rcases Nat.lt_or_ge m 5 with h5 | h5
            · rcases Nat.lt_or_ge m 2 with h6 | h6
              · rcases Nat.lt_or_ge m 1 with h7 | h7
                · rw [show m = 0 by omega]; exact mj_ok0
                · rw [show m = 1 by omega]; exact mj_ok1
              · rcases Nat.lt_or_ge m 3 with h7 | h7
                · rw [show m = 2 by omega]; exact mj_ok2
                · rcases Nat.lt_or_ge m 4 with h8 | h8
                  · rw [show m = 3 by omega]; exact mj_ok3
                  · rw [show m = 4 by omega]; exact mj_ok4
            · rcases Nat.lt_or_ge m 8 with h6 | h6
              · rcases Nat.lt_or_ge m 6 with h7 | h7
                · rw [show m = 5 by omega]; exact mj_ok5
                · rcases Nat.lt_or_ge m 7 with h8 | h8
                  · rw [show m = 6 by omega]; exact mj_ok6
                  · rw [show m = 7 by omega]; exact mj_ok7
              · rcases Nat.lt_or_ge m 9 with h7 | h7
                · rw [show m = 8 by omega]; exact mj_ok8
                · rcases Nat.lt_or_ge m 10 with h8 | h8
                  · rw [show m = 9 by omega]; exact mj_ok9
                  · rw [show m = 10 by omega]; exact mj_ok10
          · rcases Nat.lt_or_ge m 17 with h5 | h5
            · rcases Nat.lt_or_ge m 14 with h6 | h6
              · rcases Nat.lt_or_ge m 12 with h7 | h7
                · rw [show m = 11 by omega]; exact mj_ok11
                · rcases Nat.lt_or_ge m 13 with h8 | h8
                  · rw [show m = 12 by omega]; exact mj_ok12
                  · rw [show m = 13 by omega]; exact mj_ok13
              · rcases Nat.lt_or_ge m 15 with h7 | h7
                · rw [show m = 14 by omega]; exact mj_ok14
                · rcases Nat.lt_or_ge m 16 with h8 | h8
                  · rw [show m = 15 by omega]; exact mj_ok15
                  · rw [show m = 16 by omega]; exact mj_ok16
            · rcases Nat.lt_or_ge m 20 with h6 | h6
              · rcases Nat.lt_or_ge m 18 with h7 | h7
                · rw [show m = 17 by omega]; exact mj_ok17
                · rcases Nat.lt_or_ge m 19 with h8 | h8
                  · rw [show m = 18 by omega]; exact mj_ok18
                  · rw [show m = 19 by omega]; exact mj_ok19
              · rcases Nat.lt_or_ge m 21 with h7 | h7
                · rw [show m = 20 by omega]; exact mj_ok20
                · rcases Nat.lt_or_ge m 22 with h8 | h8
                  · rw [show m = 21 by omega]; exact mj_ok21
                  · rw [show m = 22 by omega]; exact mj_ok22
        · rcases Nat.lt_or_ge m 35 with h4 | h4
          · rcases Nat.lt_or_ge m 29 with h5 | h5
            · rcases Nat.lt_or_ge m 26 with h6 | h6
              · rcases Nat.lt_or_ge m 24 with h7 | h7
                · rw [show m = 23 by omega]; exact mj_ok23
                · rcases Nat.lt_or_ge m 25 with h8 | h8
                  · rw [show m = 24 by omega]; exact mj_ok24
                  · rw [show m = 25 by omega]; exact mj_ok25
              · rcases Nat.lt_or_ge m 27 with h7 | h7
                · rw [show m = 26 by omega]; exact mj_ok26
                · rcases Nat.lt_or_ge m 28 with h8 | h8
                  · rw [show m = 27 by omega]; exact mj_ok27
                  · rw [show m = 28 by omega]; exact mj_ok28
            · rcases Nat.lt_or_ge m 32 with h6 | h6
              · rcases Nat.lt_or_ge m 30 with h7 | h7
                · rw [show m = 29 by omega]; exact mj_ok29
                · rcases Nat.lt_or_ge m 31 with h8 | h8
                  · rw [show m = 30 by omega]; exact mj_ok30
                  · rw [show m = 31 by omega]; exact mj_ok31
              · rcases Nat.lt_or_ge m 33 with h7 | h7
                · rw [show m = 32 by omega]; exact mj_ok32
                · rcases Nat.lt_or_ge m 34 with h8 | h8
                  · rw [show m = 33 by omega]; exact mj_ok33
                  · rw [show m = 34 by omega]; exact mj_ok34
          · rcases Nat.lt_or_ge m 41 with h5 | h5
            · rcases Nat.lt_or_ge m 38 with h6 | h6
              · rcases Nat.lt_or_ge m 36 with h7 | h7
                · rw [show m = 35 by omega]; exact mj_ok35
                · rcases Nat.lt_or_ge m 37 with h8 | h8
                  · rw [show m = 36 by omega]; exact mj_ok36
                  · rw [show m = 37 by omega]; exact mj_ok37
              · rcases Nat.lt_or_ge m 39 with h7 | h7
                · rw [show m = 38 by omega]; exact mj_ok38
                · rcases Nat.lt_or_ge m 40 with h8 | h8
                  · rw [show m = 39 by omega]; exact mj_ok39
                  · rw [show m = 40 by omega]; exact mj_ok40
            · rcases Nat.lt_or_ge m 44 with h6 | h6
              · rcases Nat.lt_or_ge m 42 with h7 | h7
                · rw [show m = 41 by omega]; exact mj_ok41
                · rcases Nat.lt_or_ge m 43 with h8 | h8
                  · rw [show m = 42 by omega]; exact mj_ok42
                  · rw [show m = 43 by omega]; exact mj_ok43
              · rcases Nat.lt_or_ge m 45 with h7 | h7
                · rw [show m = 44 by omega]; exact mj_ok44
                · rcases Nat.lt_or_ge m 46 with h8 | h8
                  · rw [show m = 45 by omega]; exact mj_ok45
                  · rw [show m = 46 by omega]; exact mj_ok46
      · rcases Nat.lt_or_ge m 70 with h3 | h3
        · rcases Nat.lt_or_ge m 58 with h4 | h4
          · rcases Nat.lt_or_ge m 52 with h5 | h5
            · rcases Nat.lt_or_ge m 49 with h6 | h6
              · rcases Nat.lt_or_ge m 48 with h7 | h7
                · rw [show m = 47 by omega]; exact mj_ok47
                · rw [show m = 48 by omega]; exact mj_ok48
              · rcases Nat.lt_or_ge m 50 with h7 | h7
                · rw [show m = 49 by omega]; exact mj_ok49
                · rcases Nat.lt_or_ge m 51 with h8 | h8
                  · rw [show m = 50 by omega]; exact mj_ok50
                  · rw [show m = 51 by omega]; exact mj_ok51
            · rcases Nat.lt_or_ge m 55 with h6 | h6
              · rcases Nat.lt_or_ge m 53 with h7 | h7
                · rw [show m = 52 by omega]; exact mj_ok52
                · rcases Nat.lt_or_ge m 54 with h8 | h8
                  · rw [show m = 53 by omega]; exact mj_ok53
                  · rw [show m = 54 by omega]; exact mj_ok54
              · rcases Nat.lt_or_ge m 56 with h7 | h7
                · rw [show m = 55 by omega]; exact mj_ok55
                · rcases Nat.lt_or_ge m 57 with h8 | h8
                  · rw [show m = 56 by omega]; exact mj_ok56
                  · rw [show m = 57 by omega]; exact mj_ok57
          · rcases Nat.lt_or_ge m 64 with h5 | h5
            · rcases Nat.lt_or_ge m 61 with h6 | h6
              · rcases Nat.lt_or_ge m 59 with h7 | h7
                · rw [show m = 58 by omega]; exact mj_ok58
                · rcases Nat.lt_or_ge m 60 with h8 | h8
                  · rw [show m = 59 by omega]; exact mj_ok59
                  · rw [show m = 60 by omega]; exact mj_ok60
              · rcases Nat.lt_or_ge m 62 with h7 | h7
                · rw [show m = 61 by omega]; exact mj_ok61
                · rcases Nat.lt_or_ge m 63 with h8 | h8
                  · rw [show m = 62 by omega]; exact mj_ok62
                  · rw [show m = 63 by omega]; exact mj_ok63
            · rcases Nat.lt_or_ge m 67 with h6 | h6
              · rcases Nat.lt_or_ge m 65 with h7 | h7
                · rw [show m = 64 by omega]; exact mj_ok64
                · rcases Nat.lt_or_ge m 66 with h8 | h8
                  · rw [show m = 65 by omega]; exact mj_ok65
                  · rw [show m = 66 by omega]; exact mj_ok66
              · rcases Nat.lt_or_ge m 68 with h7 | h7
                · rw [show m = 67 by omega]; exact mj_ok67
                · rcases Nat.lt_or_ge m 69 with h8 | h8
                  · rw [show m = 68 by omega]; exact mj_ok68
                  · rw [show m = 69 by omega]; exact mj_ok69
        · rcases Nat.lt_or_ge m 82 with h4 | h4
          · rcases Nat.lt_or_ge m 76 with h5 | h5
            · rcases Nat.lt_or_ge m 73 with h6 | h6
              · rcases Nat.lt_or_ge m 71 with h7 | h7
                · rw [show m = 70 by omega]; exact mj_ok70
                · rcases Nat.lt_or_ge m 72 with h8 | h8
                  · rw [show m = 71 by omega]; exact mj_ok71
                  · rw [show m = 72 by omega]; exact mj_ok72
              · rcases Nat.lt_or_ge m 74 with h7 | h7
                · rw [show m = 73 by omega]; exact mj_ok73
                · rcases Nat.lt_or_ge m 75 with h8 | h8
                  · rw [show m = 74 by omega]; exact mj_ok74
                  · rw [show m = 75 by omega]; exact mj_ok75
            · rcases Nat.lt_or_ge m 79 with h6 | h6
              · rcases Nat.lt_or_ge m 77 with h7 | h7
                · rw [show m = 76 by omega]; exact mj_ok76
                · rcases Nat.lt_or_ge m 78 with h8 | h8
                  · rw [show m = 77 by omega]; exact mj_ok77
                  · rw [show m = 78 by omega]; exact mj_ok78
              · rcases Nat.lt_or_ge m 80 with h7 | h7
                · rw [show m = 79 by omega]; exact mj_ok79
                · rcases Nat.lt_or_ge m 81 with h8 | h8
                  · rw [show m = 80 by omega]; exact mj_ok80
                  · rw [show m = 81 by omega]; exact mj_ok81
          · rcases Nat.lt_or_ge m 88 with h5 | h5
            · rcases Nat.lt_or_ge m 85 with h6 | h6
              · rcases Nat.lt_or_ge m 83 with h7 | h7
                · rw [show m = 82 by omega]; exact mj_ok82
                · rcases Nat.lt_or_ge m 84 with h8 | h8
                  · rw [show m = 83 by omega]; exact mj_ok83
                  · rw [show m = 84 by omega]; exact mj_ok84
              · rcases Nat.lt_or_ge m 86 with h7 | h7
                · rw [show m = 85 by omega]; exact mj_ok85
                · rcases Nat.lt_or_ge m 87 with h8 | h8
                  · rw [show m = 86 by omega]; exact mj_ok86
                  · rw [show m = 87 by omega]; exact mj_ok87
            · rcases Nat.lt_or_ge m 91 with h6 | h6
              · rcases Nat.lt_or_ge m 89 with h7 | h7
                · rw [show m = 88 by omega]; exact mj_ok88
                · rcases Nat.lt_or_ge m 90 with h8 | h8
                  · rw [show m = 89 by omega]; exact mj_ok89
                  · rw [show m = 90 by omega]; exact mj_ok90
              · rcases Nat.lt_or_ge m 92 with h7 | h7
                · rw [show m = 91 by omega]; exact mj_ok91
                · rcases Nat.lt_or_ge m 93 with h8 | h8
                  · rw [show m = 92 by omega]; exact mj_ok92
                  · rw [show m = 93 by omega]; exact mj_ok93
    · rcases Nat.lt_or_ge m 141 with h2 | h2
      · rcases Nat.lt_or_ge m 117 with h3 | h3
        · rcases Nat.lt_or_ge m 105 with h4 | h4
          · rcases Nat.lt_or_ge m 99 with h5 | h5
            · rcases Nat.lt_or_ge m 96 with h6 | h6
              · rcases Nat.lt_or_ge m 95 with h7 | h7
                · rw [show m = 94 by omega]; exact mj_ok94
                · rw [show m = 95 by omega]; exact mj_ok95
              · rcases Nat.lt_or_ge m 97 with h7 | h7
                · rw [show m = 96 by omega]; exact mj_ok96
                · rcases Nat.lt_or_ge m 98 with h8 | h8
                  · rw [show m = 97 by omega]; exact mj_ok97
                  · rw [show m = 98 by omega]; exact mj_ok98
            · rcases Nat.lt_or_ge m 102 with h6 | h6
              · rcases Nat.lt_or_ge m 100 with h7 | h7
                · rw [show m = 99 by omega]; exact mj_ok99
                · rcases Nat.lt_or_ge m 101 with h8 | h8
                  · rw [show m = 100 by omega]; exact mj_ok100
                  · rw [show m = 101 by omega]; exact mj_ok101
              · rcases Nat.lt_or_ge m 103 with h7 | h7
                · rw [show m = 102 by omega]; exact mj_ok102
                · rcases Nat.lt_or_ge m 104 with h8 | h8
                  · rw [show m = 103 by omega]; exact mj_ok103
                  · rw [show m = 104 by omega]; exact mj_ok104
          · rcases Nat.lt_or_ge m 111 with h5 | h5
            · rcases Nat.lt_or_ge m 108 with h6 | h6
              · rcases Nat.lt_or_ge m 106 with h7 | h7
                · rw [show m = 105 by omega]; exact mj_ok105
                · rcases Nat.lt_or_ge m 107 with h8 | h8
                  · rw [show m = 106 by omega]; exact mj_ok106
                  · rw [show m = 107 by omega]; exact mj_ok107
              · rcases Nat.lt_or_ge m 109 with h7 | h7
                · rw [show m = 108 by omega]; exact mj_ok108
                · rcases Nat.lt_or_ge m 110 with h8 | h8
                  · rw [show m = 109 by omega]; exact mj_ok109
                  · rw [show m = 110 by omega]; exact mj_ok110
            · rcases Nat.lt_or_ge m 114 with h6 | h6
              · rcases Nat.lt_or_ge m 112 with h7 | h7
                · rw [show m = 111 by omega]; exact mj_ok111
                · rcases Nat.lt_or_ge m 113 with h8 | h8
                  · rw [show m = 112 by omega]; exact mj_ok112
                  · rw [show m = 113 by omega]; exact mj_ok113
              · rcases Nat.lt_or_ge m 115 with h7 | h7
                · rw [show m = 114 by omega]; exact mj_ok114
                · rcases Nat.lt_or_ge m 116 with h8 | h8
                  · rw [show m = 115 by omega]; exact mj_ok115
                  · rw [show m = 116 by omega]; exact mj_ok116
        · rcases Nat.lt_or_ge m 129 with h4 | h4
          · rcases Nat.lt_or_ge m 123 with h5 | h5
            · rcases Nat.lt_or_ge m 120 with h6 | h6
              · rcases Nat.lt_or_ge m 118 with h7 | h7
                · rw [show m = 117 by omega]; exact mj_ok117
                · rcases Nat.lt_or_ge m 119 with h8 | h8
                  · rw [show m = 118 by omega]; exact mj_ok118
                  · rw [show m = 119 by omega]; exact mj_ok119
              · rcases Nat.lt_or_ge m 121 with h7 | h7
                · rw [show m = 120 by omega]; exact mj_ok120
                · rcases Nat.lt_or_ge m 122 with h8 | h8
                  · rw [show m = 121 by omega]; exact mj_ok121
                  · rw [show m = 122 by omega]; exact mj_ok122
            · rcases Nat.lt_or_ge m 126 with h6 | h6
              · rcases Nat.lt_or_ge m 124 with h7 | h7
                · rw [show m = 123 by omega]; exact mj_ok123
                · rcases Nat.lt_or_ge m 125 with h8 | h8
                  · rw [show m = 124 by omega]; exact mj_ok124
                  · rw [show m = 125 by omega]; exact mj_ok125
              · rcases Nat.lt_or_ge m 127 with h7 | h7
                · rw [show m = 126 by omega]; exact mj_ok126
                · rcases Nat.lt_or_ge m 128 with h8 | h8
                  · rw [show m = 127 by omega]; exact mj_ok127
                  · rw [show m = 128 by omega]; exact mj_ok128
          · rcases Nat.lt_or_ge m 135 with h5 | h5
            · rcases Nat.lt_or_ge m 132 with h6 | h6
              · rcases Nat.lt_or_ge m 130 with h7 | h7
                · rw [show m = 129 by omega]; exact mj_ok129
                · rcases Nat.lt_or_ge m 131 with h8 | h8
                  · rw [show m = 130 by omega]; exact mj_ok130
                  · rw [show m = 131 by omega]; exact mj_ok131
              · rcases Nat.lt_or_ge m 133 with h7 | h7
                · rw [show m = 132 by omega]; exact mj_ok132
                · rcases Nat.lt_or_ge m 134 with h8 | h8
                  · rw [show m = 133 by omega]; exact mj_ok133
                  · rw [show m = 134 by omega]; exact mj_ok134
            · rcases Nat.lt_or_ge m 138 with h6 | h6
              · rcases Nat.lt_or_ge m 136 with h7 | h7
                · rw [show m = 135 by omega]; exact mj_ok135
                · rcases Nat.lt_or_ge m 137 with h8 | h8
                  · rw [show m = 136 by omega]; exact mj_ok136
                  · rw [show m = 137 by omega]; exact mj_ok137
              · rcases Nat.lt_or_ge m 139 with h7 | h7
                · rw [show m = 138 by omega]; exact mj_ok138
                · rcases Nat.lt_or_ge m 140 with h8 | h8
                  · rw [show m = 139 by omega]; exact mj_ok139
                  · rw [show m = 140 by omega]; exact mj_ok140
      · rcases Nat.lt_or_ge m 164 with h3 | h3
        · rcases Nat.lt_or_ge m 152 with h4 | h4
          · rcases Nat.lt_or_ge m 146 with h5 | h5
            · rcases Nat.lt_or_ge m 143 with h6 | h6
              · rcases Nat.lt_or_ge m 142 with h7 | h7
                · rw [show m = 141 by omega]; exact mj_ok141
                · rw [show m = 142 by omega]; exact mj_ok142
              · rcases Nat.lt_or_ge m 144 with h7 | h7
                · rw [show m = 143 by omega]; exact mj_ok143
                · rcases Nat.lt_or_ge m 145 with h8 | h8
                  · rw [show m = 144 by omega]; exact mj_ok144
                  · rw [show m = 145 by omega]; exact mj_ok145
            · rcases Nat.lt_or_ge m 149 with h6 | h6
              · rcases Nat.lt_or_ge m 147 with h7 | h7
                · rw [show m = 146 by omega]; exact mj_ok146
                · rcases Nat.lt_or_ge m 148 with h8 | h8
                  · rw [show m = 147 by omega]; exact mj_ok147
                  · rw [show m = 148 by omega]; exact mj_ok148
              · rcases Nat.lt_or_ge m 150 with h7 | h7
                · rw [show m = 149 by omega]; exact mj_ok149
                · rcases Nat.lt_or_ge m 151 with h8 | h8
                  · rw [show m = 150 by omega]; exact mj_ok150
                  · rw [show m = 151 by omega]; exact mj_ok151
          · rcases Nat.lt_or_ge m 158 with h5 | h5
            · rcases Nat.lt_or_ge m 155 with h6 | h6
              · rcases Nat.lt_or_ge m 153 with h7 | h7
                · rw [show m = 152 by omega]; exact mj_ok152
                · rcases Nat.lt_or_ge m 154 with h8 | h8
                  · rw [show m = 153 by omega]; exact mj_ok153
                  · rw [show m = 154 by omega]; exact mj_ok154
              · rcases Nat.lt_or_ge m 156 with h7 | h7
                · rw [show m = 155 by omega]; exact mj_ok155
                · rcases Nat.lt_or_ge m 157 with h8 | h8
                  · rw [show m = 156 by omega]; exact mj_ok156
                  · rw [show m = 157 by omega]; exact mj_ok157
            · rcases Nat.lt_or_ge m 161 with h6 | h6
              · rcases Nat.lt_or_ge m 159 with h7 | h7
                · rw [show m = 158 by omega]; exact mj_ok158
                · rcases Nat.lt_or_ge m 160 with h8 | h8
                  · rw [show m = 159 by omega]; exact mj_ok159
                  · rw [show m = 160 by omega]; exact mj_ok160
              · rcases Nat.lt_or_ge m 162 with h7 | h7
                · rw [show m = 161 by omega]; exact mj_ok161
                · rcases Nat.lt_or_ge m 163 with h8 | h8
                  · rw [show m = 162 by omega]; exact mj_ok162
                  · rw [show m = 163 by omega]; exact mj_ok163
        · rcases Nat.lt_or_ge m 176 with h4 | h4
          · rcases Nat.lt_or_ge m 170 with h5 | h5
            · rcases Nat.lt_or_ge m 167 with h6 | h6
              · rcases Nat.lt_or_ge m 165 with h7 | h7
                · rw [show m = 164 by omega]; exact mj_ok164
                · rcases Nat.lt_or_ge m 166 with h8 | h8
                  · rw [show m = 165 by omega]; exact mj_ok165
                  · rw [show m = 166 by omega]; exact mj_ok166
              · rcases Nat.lt_or_ge m 168 with h7 | h7
                · rw [show m = 167 by omega]; exact mj_ok167
                · rcases Nat.lt_or_ge m 169 with h8 | h8
                  · rw [show m = 168 by omega]; exact mj_ok168
                  · rw [show m = 169 by omega]; exact mj_ok169
            · rcases Nat.lt_or_ge m 173 with h6 | h6
              · rcases Nat.lt_or_ge m 171 with h7 | h7
                · rw [show m = 170 by omega]; exact mj_ok170
                · rcases Nat.lt_or_ge m 172 with h8 | h8
                  · rw [show m = 171 by omega]; exact mj_ok171
                  · rw [show m = 172 by omega]; exact mj_ok172
              · rcases Nat.lt_or_ge m 174 with h7 | h7
                · rw [show m = 173 by omega]; exact mj_ok173
                · rcases Nat.lt_or_ge m 175 with h8 | h8
                  · rw [show m = 174 by omega]; exact mj_ok174
                  · rw [show m = 175 by omega]; exact mj_ok175
          · rcases Nat.lt_or_ge m 182 with h5 | h5
            · rcases Nat.lt_or_ge m 179 with h6 | h6
              · rcases Nat.lt_or_ge m 177 with h7 | h7
                · rw [show m = 176 by omega]; exact mj_ok176
                · rcases Nat.lt_or_ge m 178 with h8 | h8
                  · rw [show m = 177 by omega]; exact mj_ok177
                  · rw [show m = 178 by omega]; exact mj_ok178
              · rcases Nat.lt_or_ge m 180 with h7 | h7
                · rw [show m = 179 by omega]; exact mj_ok179
                · rcases Nat.lt_or_ge m 181 with h8 | h8
                  · rw [show m = 180 by omega]; exact mj_ok180
                  · rw [show m = 181 by omega]; exact mj_ok181
            · rcases Nat.lt_or_ge m 185 with h6 | h6
              · rcases Nat.lt_or_ge m 183 with h7 | h7
                · rw [show m = 182 by omega]; exact mj_ok182
                · rcases Nat.lt_or_ge m 184 with h8 | h8
                  · rw [show m = 183 by omega]; exact mj_ok183
                  · rw [show m = 184 by omega]; exact mj_ok184
              · rcases Nat.lt_or_ge m 186 with h7 | h7
                · rw [show m = 185 by omega]; exact mj_ok185
                · rcases Nat.lt_or_ge m 187 with h8 | h8
                  · rw [show m = 186 by omega]; exact mj_ok186
                  · rw [show m = 187 by omega]; exact mj_ok187
theorem mj_cod_lt {m pc : Nat} {x : mj_MI × Nat} (h : mj_cod m pc = some x) : m < 188 := by
  rcases Nat.lt_or_ge m 188 with h1 | h1
  · exact h1
  · have h2 : mj_cods.getD m [] = [] := by
      rw [List.getD_eq_getElem?_getD, List.getElem?_eq_none (by show 188 ≤ m; exact h1)]
      rfl
    unfold mj_cod at h
    rw [h2] at h
    cases h
theorem mj_cod_ok {m pc nx : Nat} {mi : mj_MI} (hm : m < 188) (h : mj_cod m pc = some (mi, nx)) : ∃ i len, decode (mj_bb m) pc = .ok (i, len) ∧ mj_tr m pc i = some mi ∧ nx = pc + len ∧ (mj_il i = 0 ∨ len = mj_il i) := by
  unfold mj_cod at h
  have h1 := mj_look_mem h
  have h3 := mj_ok_all m hm
  unfold mj_ok at h3
  generalize mj_cods.getD m [] = l at h1 h3
  have h2 := (List.all_eq_true.mp h3) (pc, mi, nx) h1
  exact mj_chk_ok (x := (pc, mi, nx)) h2
