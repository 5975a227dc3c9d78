/-! All callees. -/
theorem hcdo0 : ∀ y, 1 ≤ y → y < 40 → cdxF y := by
  intro y ha hb
  rcases Nat.lt_or_ge y 20 with h | h
  · skip
    rcases Nat.lt_or_ge y 10 with h | h
    · skip
      rcases Nat.lt_or_ge y 5 with h | h
      · skip
        rcases Nat.lt_or_ge y 3 with h | h
        · skip
          rcases Nat.lt_or_ge y 2 with h | h
          · skip
            have e : y = 1 := by omega
            subst e
            exact cdxF_of cd1
          · skip
            have e : y = 2 := by omega
            subst e
            exact cdxF_of cd2
        · skip
          rcases Nat.lt_or_ge y 4 with h | h
          · skip
            have e : y = 3 := by omega
            subst e
            exact cdxF_of cd3
          · skip
            have e : y = 4 := by omega
            subst e
            exact cdxF_of cd4
      · skip
        rcases Nat.lt_or_ge y 7 with h | h
        · skip
          rcases Nat.lt_or_ge y 6 with h | h
          · skip
            have e : y = 5 := by omega
            subst e
            exact cdxF_of cd5
          · skip
            have e : y = 6 := by omega
            subst e
            exact cdxF_of cd6
        · skip
          rcases Nat.lt_or_ge y 8 with h | h
          · skip
            have e : y = 7 := by omega
            subst e
            exact cdxF_of cd7
          · skip
            rcases Nat.lt_or_ge y 9 with h | h
            · skip
              have e : y = 8 := by omega
              subst e
              exact cdxF_of cd8
            · skip
              have e : y = 9 := by omega
              subst e
              exact cdxF_of cd9
    · skip
      rcases Nat.lt_or_ge y 15 with h | h
      · skip
        rcases Nat.lt_or_ge y 12 with h | h
        · skip
          rcases Nat.lt_or_ge y 11 with h | h
          · skip
            have e : y = 10 := by omega
            subst e
            exact cdxF_of cd10
          · skip
            have e : y = 11 := by omega
            subst e
            exact cdxF_of cd11
        · skip
          rcases Nat.lt_or_ge y 13 with h | h
          · skip
            have e : y = 12 := by omega
            subst e
            exact cdxF_of cd12
          · skip
            rcases Nat.lt_or_ge y 14 with h | h
            · skip
              have e : y = 13 := by omega
              subst e
              exact cdxF_of cd13
            · skip
              have e : y = 14 := by omega
              subst e
              exact cdxF_of cd14
      · skip
        rcases Nat.lt_or_ge y 17 with h | h
        · skip
          rcases Nat.lt_or_ge y 16 with h | h
          · skip
            have e : y = 15 := by omega
            subst e
            exact cdxF_of cd15
          · skip
            have e : y = 16 := by omega
            subst e
            exact cdxF_of cd16
        · skip
          rcases Nat.lt_or_ge y 18 with h | h
          · skip
            have e : y = 17 := by omega
            subst e
            exact cdxF_of cd17
          · skip
            rcases Nat.lt_or_ge y 19 with h | h
            · skip
              have e : y = 18 := by omega
              subst e
              exact cdxF_of cd18
            · skip
              have e : y = 19 := by omega
              subst e
              exact cdxF_of cd19
  · skip
    rcases Nat.lt_or_ge y 30 with h | h
    · skip
      rcases Nat.lt_or_ge y 25 with h | h
      · skip
        rcases Nat.lt_or_ge y 22 with h | h
        · skip
          rcases Nat.lt_or_ge y 21 with h | h
          · skip
            have e : y = 20 := by omega
            subst e
            exact cdxF_of cd20
          · skip
            have e : y = 21 := by omega
            subst e
            exact cdxF_of cd21
        · skip
          rcases Nat.lt_or_ge y 23 with h | h
          · skip
            have e : y = 22 := by omega
            subst e
            exact cdxF_of cd22
          · skip
            rcases Nat.lt_or_ge y 24 with h | h
            · skip
              have e : y = 23 := by omega
              subst e
              exact cdxF_of cd23
            · skip
              have e : y = 24 := by omega
              subst e
              exact cdxF_of cd24
      · skip
        rcases Nat.lt_or_ge y 27 with h | h
        · skip
          rcases Nat.lt_or_ge y 26 with h | h
          · skip
            have e : y = 25 := by omega
            subst e
            exact cdxF_of cd25
          · skip
            have e : y = 26 := by omega
            subst e
            exact cdxF_of cd26
        · skip
          rcases Nat.lt_or_ge y 28 with h | h
          · skip
            have e : y = 27 := by omega
            subst e
            exact cdxF_of cd27
          · skip
            rcases Nat.lt_or_ge y 29 with h | h
            · skip
              have e : y = 28 := by omega
              subst e
              exact cdxF_of cd28
            · skip
              have e : y = 29 := by omega
              subst e
              exact cdxF_of cd29
    · skip
      rcases Nat.lt_or_ge y 35 with h | h
      · skip
        rcases Nat.lt_or_ge y 32 with h | h
        · skip
          rcases Nat.lt_or_ge y 31 with h | h
          · skip
            have e : y = 30 := by omega
            subst e
            exact cdxF_of cd30
          · skip
            have e : y = 31 := by omega
            subst e
            exact cdxF_of cd31
        · skip
          rcases Nat.lt_or_ge y 33 with h | h
          · skip
            have e : y = 32 := by omega
            subst e
            exact cdxF_of cd32
          · skip
            rcases Nat.lt_or_ge y 34 with h | h
            · skip
              have e : y = 33 := by omega
              subst e
              exact cdxF_of cd33
            · skip
              have e : y = 34 := by omega
              subst e
              exact cdxF_of cd34
      · skip
        rcases Nat.lt_or_ge y 37 with h | h
        · skip
          rcases Nat.lt_or_ge y 36 with h | h
          · skip
            have e : y = 35 := by omega
            subst e
            exact cdxF_of cd35
          · skip
            have e : y = 36 := by omega
            subst e
            exact cdxF_of cd36
        · skip
          rcases Nat.lt_or_ge y 38 with h | h
          · skip
            have e : y = 37 := by omega
            subst e
            exact cdxF_of cd37
          · skip
            rcases Nat.lt_or_ge y 39 with h | h
            · skip
              have e : y = 38 := by omega
              subst e
              exact cdxF_of cd38
            · skip
              have e : y = 39 := by omega
              subst e
              exact cdxF_of cd39
theorem hcdo40 : ∀ y, 40 ≤ y → y < 80 → cdxF y := by
  intro y ha hb
  rcases Nat.lt_or_ge y 60 with h | h
  · skip
    rcases Nat.lt_or_ge y 50 with h | h
    · skip
      rcases Nat.lt_or_ge y 45 with h | h
      · skip
        rcases Nat.lt_or_ge y 42 with h | h
        · skip
          rcases Nat.lt_or_ge y 41 with h | h
          · skip
            have e : y = 40 := by omega
            subst e
            exact cdxF_of cd40
          · skip
            have e : y = 41 := by omega
            subst e
            exact cdxF_of cd41
        · skip
          rcases Nat.lt_or_ge y 43 with h | h
          · skip
            have e : y = 42 := by omega
            subst e
            exact cdxF_of cd42
          · skip
            rcases Nat.lt_or_ge y 44 with h | h
            · skip
              have e : y = 43 := by omega
              subst e
              exact cdxF_of cd43
            · skip
              have e : y = 44 := by omega
              subst e
              exact cdxF_of cd44
      · skip
        rcases Nat.lt_or_ge y 47 with h | h
        · skip
          rcases Nat.lt_or_ge y 46 with h | h
          · skip
            have e : y = 45 := by omega
            subst e
            exact cdxF_of cd45
          · skip
            have e : y = 46 := by omega
            subst e
            exact cdxF_of cd46
        · skip
          rcases Nat.lt_or_ge y 48 with h | h
          · skip
            have e : y = 47 := by omega
            subst e
            exact cdxF_of cd47
          · skip
            rcases Nat.lt_or_ge y 49 with h | h
            · skip
              have e : y = 48 := by omega
              subst e
              exact cdxF_of cd48
            · skip
              have e : y = 49 := by omega
              subst e
              exact cdxF_of cd49
    · skip
      rcases Nat.lt_or_ge y 55 with h | h
      · skip
        rcases Nat.lt_or_ge y 52 with h | h
        · skip
          rcases Nat.lt_or_ge y 51 with h | h
          · skip
            have e : y = 50 := by omega
            subst e
            exact cdxF_of cd50
          · skip
            have e : y = 51 := by omega
            subst e
            exact cdxF_of cd51
        · skip
          rcases Nat.lt_or_ge y 53 with h | h
          · skip
            have e : y = 52 := by omega
            subst e
            exact cdxF_of cd52
          · skip
            rcases Nat.lt_or_ge y 54 with h | h
            · skip
              have e : y = 53 := by omega
              subst e
              exact cdxF_of cd53
            · skip
              have e : y = 54 := by omega
              subst e
              exact cdxF_of cd54
      · skip
        rcases Nat.lt_or_ge y 57 with h | h
        · skip
          rcases Nat.lt_or_ge y 56 with h | h
          · skip
            have e : y = 55 := by omega
            subst e
            exact cdxF_of cd55
          · skip
            have e : y = 56 := by omega
            subst e
            exact cdxF_of cd56
        · skip
          rcases Nat.lt_or_ge y 58 with h | h
          · skip
            have e : y = 57 := by omega
            subst e
            exact cdxF_of cd57
          · skip
            rcases Nat.lt_or_ge y 59 with h | h
            · skip
              have e : y = 58 := by omega
              subst e
              exact cdxF_of cd58
            · skip
              have e : y = 59 := by omega
              subst e
              exact cdxF_of cd59
  · skip
    rcases Nat.lt_or_ge y 70 with h | h
    · skip
      rcases Nat.lt_or_ge y 65 with h | h
      · skip
        rcases Nat.lt_or_ge y 62 with h | h
        · skip
          rcases Nat.lt_or_ge y 61 with h | h
          · skip
            have e : y = 60 := by omega
            subst e
            exact cdxF_of cd60
          · skip
            have e : y = 61 := by omega
            subst e
            exact cdxF_of cd61
        · skip
          rcases Nat.lt_or_ge y 63 with h | h
          · skip
            have e : y = 62 := by omega
            subst e
            exact cdxF_of cd62
          · skip
            rcases Nat.lt_or_ge y 64 with h | h
            · skip
              have e : y = 63 := by omega
              subst e
              exact cdxF_of cd63
            · skip
              have e : y = 64 := by omega
              subst e
              exact cdxF_of cd64
      · skip
        rcases Nat.lt_or_ge y 67 with h | h
        · skip
          rcases Nat.lt_or_ge y 66 with h | h
          · skip
            have e : y = 65 := by omega
            subst e
            exact cdxF_of cd65
          · skip
            have e : y = 66 := by omega
            subst e
            exact cdxF_of cd66
        · skip
          rcases Nat.lt_or_ge y 68 with h | h
          · skip
            have e : y = 67 := by omega
            subst e
            exact cdxF_of cd67
          · skip
            rcases Nat.lt_or_ge y 69 with h | h
            · skip
              have e : y = 68 := by omega
              subst e
              exact cdxF_of cd68
            · skip
              have e : y = 69 := by omega
              subst e
              exact cdxF_of cd69
    · skip
      rcases Nat.lt_or_ge y 75 with h | h
      · skip
        rcases Nat.lt_or_ge y 72 with h | h
        · skip
          rcases Nat.lt_or_ge y 71 with h | h
          · skip
            have e : y = 70 := by omega
            subst e
            exact cdxF_of cd70
          · skip
            have e : y = 71 := by omega
            subst e
            exact cdxF_of cd71
        · skip
          rcases Nat.lt_or_ge y 73 with h | h
          · skip
            have e : y = 72 := by omega
            subst e
            exact cdxF_of cd72
          · skip
            rcases Nat.lt_or_ge y 74 with h | h
            · skip
              have e : y = 73 := by omega
              subst e
              exact cdxF_of cd73
            · skip
              have e : y = 74 := by omega
              subst e
              exact cdxF_of cd74
      · skip
        rcases Nat.lt_or_ge y 77 with h | h
        · skip
          rcases Nat.lt_or_ge y 76 with h | h
          · skip
            have e : y = 75 := by omega
            subst e
            exact cdxF_of cd75
          · skip
            have e : y = 76 := by omega
            subst e
            exact cdxF_of cd76
        · skip
          rcases Nat.lt_or_ge y 78 with h | h
          · skip
            have e : y = 77 := by omega
            subst e
            exact cdxF_of cd77
          · skip
            rcases Nat.lt_or_ge y 79 with h | h
            · skip
              have e : y = 78 := by omega
              subst e
              exact cdxF_of cd78
            · skip
              have e : y = 79 := by omega
              subst e
              exact cdxF_of cd79
theorem hcdo80 : ∀ y, 80 ≤ y → y < 120 → cdxF y := by
  intro y ha hb
  rcases Nat.lt_or_ge y 100 with h | h
  · skip
    rcases Nat.lt_or_ge y 90 with h | h
    · skip
      rcases Nat.lt_or_ge y 85 with h | h
      · skip
        rcases Nat.lt_or_ge y 82 with h | h
        · skip
          rcases Nat.lt_or_ge y 81 with h | h
          · skip
            have e : y = 80 := by omega
            subst e
            exact cdxF_of cd80
          · skip
            have e : y = 81 := by omega
            subst e
            exact cdxF_of cd81
        · skip
          rcases Nat.lt_or_ge y 83 with h | h
          · skip
            have e : y = 82 := by omega
            subst e
            exact cdxF_of cd82
          · skip
            rcases Nat.lt_or_ge y 84 with h | h
            · skip
              have e : y = 83 := by omega
              subst e
              exact cdxF_of cd83
            · skip
              have e : y = 84 := by omega
              subst e
              exact cdxF_of cd84
      · skip
        rcases Nat.lt_or_ge y 87 with h | h
        · skip
          rcases Nat.lt_or_ge y 86 with h | h
          · skip
            have e : y = 85 := by omega
            subst e
            exact cdxF_of cd85
          · skip
            have e : y = 86 := by omega
            subst e
            exact cdxF_of cd86
        · skip
          rcases Nat.lt_or_ge y 88 with h | h
          · skip
            have e : y = 87 := by omega
            subst e
            exact cdxF_of cd87
          · skip
            rcases Nat.lt_or_ge y 89 with h | h
            · skip
              have e : y = 88 := by omega
              subst e
              exact cdxF_of cd88
            · skip
              have e : y = 89 := by omega
              subst e
              exact cdxF_of cd89
    · skip
      rcases Nat.lt_or_ge y 95 with h | h
      · skip
        rcases Nat.lt_or_ge y 92 with h | h
        · skip
          rcases Nat.lt_or_ge y 91 with h | h
          · skip
            have e : y = 90 := by omega
            subst e
            exact cdxF_of cd90
          · skip
            have e : y = 91 := by omega
            subst e
            exact cdxF_of cd91
        · skip
          rcases Nat.lt_or_ge y 93 with h | h
          · skip
            have e : y = 92 := by omega
            subst e
            exact cdxF_of cd92
          · skip
            rcases Nat.lt_or_ge y 94 with h | h
            · skip
              have e : y = 93 := by omega
              subst e
              exact cdxF_of cd93
            · skip
              have e : y = 94 := by omega
              subst e
              exact cdxF_of cd94
      · skip
        rcases Nat.lt_or_ge y 97 with h | h
        · skip
          rcases Nat.lt_or_ge y 96 with h | h
          · skip
            have e : y = 95 := by omega
            subst e
            exact cdxF_of cd95
          · skip
            have e : y = 96 := by omega
            subst e
            exact cdxF_of cd96
        · skip
          rcases Nat.lt_or_ge y 98 with h | h
          · skip
            have e : y = 97 := by omega
            subst e
            exact cdxF_of cd97
          · skip
            rcases Nat.lt_or_ge y 99 with h | h
            · skip
              have e : y = 98 := by omega
              subst e
              exact cdxF_of cd98
            · skip
              have e : y = 99 := by omega
              subst e
              exact cdxF_of cd99
  · skip
    rcases Nat.lt_or_ge y 110 with h | h
    · skip
      rcases Nat.lt_or_ge y 105 with h | h
      · skip
        rcases Nat.lt_or_ge y 102 with h | h
        · skip
          rcases Nat.lt_or_ge y 101 with h | h
          · skip
            have e : y = 100 := by omega
            subst e
            exact cdxF_of cd100
          · skip
            have e : y = 101 := by omega
            subst e
            exact cdxF_of cd101
        · skip
          rcases Nat.lt_or_ge y 103 with h | h
          · skip
            have e : y = 102 := by omega
            subst e
            exact cdxF_of cd102
          · skip
            rcases Nat.lt_or_ge y 104 with h | h
            · skip
              have e : y = 103 := by omega
              subst e
              exact cdxF_of cd103
            · skip
              have e : y = 104 := by omega
              subst e
              exact cdxF_of cd104
      · skip
        rcases Nat.lt_or_ge y 107 with h | h
        · skip
          rcases Nat.lt_or_ge y 106 with h | h
          · skip
            have e : y = 105 := by omega
            subst e
            exact cdxF_of cd105
          · skip
            have e : y = 106 := by omega
            subst e
            exact cdxF_of cd106
        · skip
          rcases Nat.lt_or_ge y 108 with h | h
          · skip
            have e : y = 107 := by omega
            subst e
            exact cdxF_of cd107
          · skip
            rcases Nat.lt_or_ge y 109 with h | h
            · skip
              have e : y = 108 := by omega
              subst e
              exact cdxF_of cd108
            · skip
              have e : y = 109 := by omega
              subst e
              exact cdxF_of cd109
    · skip
      rcases Nat.lt_or_ge y 115 with h | h
      · skip
        rcases Nat.lt_or_ge y 112 with h | h
        · skip
          rcases Nat.lt_or_ge y 111 with h | h
          · skip
            have e : y = 110 := by omega
            subst e
            exact cdxF_of cd110
          · skip
            have e : y = 111 := by omega
            subst e
            exact cdxF_of cd111
        · skip
          rcases Nat.lt_or_ge y 113 with h | h
          · skip
            have e : y = 112 := by omega
            subst e
            exact cdxF_of cd112
          · skip
            rcases Nat.lt_or_ge y 114 with h | h
            · skip
              have e : y = 113 := by omega
              subst e
              exact cdxF_of cd113
            · skip
              have e : y = 114 := by omega
              subst e
              exact cdxF_of cd114
      · skip
        rcases Nat.lt_or_ge y 117 with h | h
        · skip
          rcases Nat.lt_or_ge y 116 with h | h
          · skip
            have e : y = 115 := by omega
            subst e
            exact cdxF_of cd115
          · skip
            have e : y = 116 := by omega
            subst e
            exact cdxF_of cd116
        · skip
          rcases Nat.lt_or_ge y 118 with h | h
          · skip
            have e : y = 117 := by omega
            subst e
            exact cdxF_of cd117
          · skip
            rcases Nat.lt_or_ge y 119 with h | h
            · skip
              have e : y = 118 := by omega
              subst e
              exact cdxF_of cd118
            · skip
              have e : y = 119 := by omega
              subst e
              exact cdxF_of cd119
theorem hcdo120 : ∀ y, 120 ≤ y → y < 160 → cdxF y := by
  intro y ha hb
  rcases Nat.lt_or_ge y 140 with h | h
  · skip
    rcases Nat.lt_or_ge y 130 with h | h
    · skip
      rcases Nat.lt_or_ge y 125 with h | h
      · skip
        rcases Nat.lt_or_ge y 122 with h | h
        · skip
          rcases Nat.lt_or_ge y 121 with h | h
          · skip
            have e : y = 120 := by omega
            subst e
            exact cdxF_of cd120
          · skip
            have e : y = 121 := by omega
            subst e
            exact cdxF_of cd121
        · skip
          rcases Nat.lt_or_ge y 123 with h | h
          · skip
            have e : y = 122 := by omega
            subst e
            exact cdxF_of cd122
          · skip
            rcases Nat.lt_or_ge y 124 with h | h
            · skip
              have e : y = 123 := by omega
              subst e
              exact cdxF_of cd123
            · skip
              have e : y = 124 := by omega
              subst e
              exact cdxF_of cd124
      · skip
        rcases Nat.lt_or_ge y 127 with h | h
        · skip
          rcases Nat.lt_or_ge y 126 with h | h
          · skip
            have e : y = 125 := by omega
            subst e
            exact cdxF_of cd125
          · skip
            have e : y = 126 := by omega
            subst e
            exact cdxF_of cd126
        · skip
          rcases Nat.lt_or_ge y 128 with h | h
          · skip
            have e : y = 127 := by omega
            subst e
            exact cdxF_of cd127
          · skip
            rcases Nat.lt_or_ge y 129 with h | h
            · skip
              have e : y = 128 := by omega
              subst e
              exact cdxF_of cd128
            · skip
              have e : y = 129 := by omega
              subst e
              exact cdxF_of cd129
    · skip
      rcases Nat.lt_or_ge y 135 with h | h
      · skip
        rcases Nat.lt_or_ge y 132 with h | h
        · skip
          rcases Nat.lt_or_ge y 131 with h | h
          · skip
            have e : y = 130 := by omega
            subst e
            exact cdxF_of cd130
          · skip
            have e : y = 131 := by omega
            subst e
            exact cdxF_of cd131
        · skip
          rcases Nat.lt_or_ge y 133 with h | h
          · skip
            have e : y = 132 := by omega
            subst e
            exact cdxF_of cd132
          · skip
            rcases Nat.lt_or_ge y 134 with h | h
            · skip
              have e : y = 133 := by omega
              subst e
              exact cdxF_of cd133
            · skip
              have e : y = 134 := by omega
              subst e
              exact cdxF_of cd134
      · skip
        rcases Nat.lt_or_ge y 137 with h | h
        · skip
          rcases Nat.lt_or_ge y 136 with h | h
          · skip
            have e : y = 135 := by omega
            subst e
            exact cdxF_of cd135
          · skip
            have e : y = 136 := by omega
            subst e
            exact cdxF_of cd136
        · skip
          rcases Nat.lt_or_ge y 138 with h | h
          · skip
            have e : y = 137 := by omega
            subst e
            exact cdxF_of cd137
          · skip
            rcases Nat.lt_or_ge y 139 with h | h
            · skip
              have e : y = 138 := by omega
              subst e
              exact cdxF_of cd138
            · skip
              have e : y = 139 := by omega
              subst e
              exact cdxF_of cd139
  · skip
    rcases Nat.lt_or_ge y 150 with h | h
    · skip
      rcases Nat.lt_or_ge y 145 with h | h
      · skip
        rcases Nat.lt_or_ge y 142 with h | h
        · skip
          rcases Nat.lt_or_ge y 141 with h | h
          · skip
            have e : y = 140 := by omega
            subst e
            exact cdxF_of cd140
          · skip
            have e : y = 141 := by omega
            subst e
            exact cdxF_of cd141
        · skip
          rcases Nat.lt_or_ge y 143 with h | h
          · skip
            have e : y = 142 := by omega
            subst e
            exact cdxF_of cd142
          · skip
            rcases Nat.lt_or_ge y 144 with h | h
            · skip
              have e : y = 143 := by omega
              subst e
              exact cdxF_of cd143
            · skip
              have e : y = 144 := by omega
              subst e
              exact cdxF_of cd144
      · skip
        rcases Nat.lt_or_ge y 147 with h | h
        · skip
          rcases Nat.lt_or_ge y 146 with h | h
          · skip
            have e : y = 145 := by omega
            subst e
            exact cdxF_of cd145
          · skip
            have e : y = 146 := by omega
            subst e
            exact cdxF_of cd146
        · skip
          rcases Nat.lt_or_ge y 148 with h | h
          · skip
            have e : y = 147 := by omega
            subst e
            exact cdxF_of cd147
          · skip
            rcases Nat.lt_or_ge y 149 with h | h
            · skip
              have e : y = 148 := by omega
              subst e
              exact cdxF_of cd148
            · skip
              have e : y = 149 := by omega
              subst e
              exact cdxF_of cd149
    · skip
      rcases Nat.lt_or_ge y 155 with h | h
      · skip
        rcases Nat.lt_or_ge y 152 with h | h
        · skip
          rcases Nat.lt_or_ge y 151 with h | h
          · skip
            have e : y = 150 := by omega
            subst e
            exact cdxF_of cd150
          · skip
            have e : y = 151 := by omega
            subst e
            exact cdxF_of cd151
        · skip
          rcases Nat.lt_or_ge y 153 with h | h
          · skip
            have e : y = 152 := by omega
            subst e
            exact cdxF_of cd152
          · skip
            rcases Nat.lt_or_ge y 154 with h | h
            · skip
              have e : y = 153 := by omega
              subst e
              exact cdxF_of cd153
            · skip
              have e : y = 154 := by omega
              subst e
              exact cdxF_of cd154
      · skip
        rcases Nat.lt_or_ge y 157 with h | h
        · skip
          rcases Nat.lt_or_ge y 156 with h | h
          · skip
            have e : y = 155 := by omega
            subst e
            exact cdxF_of cd155
          · skip
            have e : y = 156 := by omega
            subst e
            exact cdxF_of cd156
        · skip
          rcases Nat.lt_or_ge y 158 with h | h
          · skip
            have e : y = 157 := by omega
            subst e
            exact cdxF_of cd157
          · skip
            rcases Nat.lt_or_ge y 159 with h | h
            · skip
              have e : y = 158 := by omega
              subst e
              exact cdxF_of cd158
            · skip
              have e : y = 159 := by omega
              subst e
              exact cdxF_of cd159
theorem hcdo160 : ∀ y, 160 ≤ y → y < 200 → cdxF y := by
  intro y ha hb
  rcases Nat.lt_or_ge y 180 with h | h
  · skip
    rcases Nat.lt_or_ge y 170 with h | h
    · skip
      rcases Nat.lt_or_ge y 165 with h | h
      · skip
        rcases Nat.lt_or_ge y 162 with h | h
        · skip
          rcases Nat.lt_or_ge y 161 with h | h
          · skip
            have e : y = 160 := by omega
            subst e
            exact cdxF_of cd160
          · skip
            have e : y = 161 := by omega
            subst e
            exact cdxF_of cd161
        · skip
          rcases Nat.lt_or_ge y 163 with h | h
          · skip
            have e : y = 162 := by omega
            subst e
            exact cdxF_of cd162
          · skip
            rcases Nat.lt_or_ge y 164 with h | h
            · skip
              have e : y = 163 := by omega
              subst e
              exact cdxF_of cd163
            · skip
              have e : y = 164 := by omega
              subst e
              exact cdxF_of cd164
      · skip
        rcases Nat.lt_or_ge y 167 with h | h
        · skip
          rcases Nat.lt_or_ge y 166 with h | h
          · skip
            have e : y = 165 := by omega
            subst e
            exact cdxF_of cd165
          · skip
            have e : y = 166 := by omega
            subst e
            exact cdxF_of cd166
        · skip
          rcases Nat.lt_or_ge y 168 with h | h
          · skip
            have e : y = 167 := by omega
            subst e
            exact cdxF_of cd167
          · skip
            rcases Nat.lt_or_ge y 169 with h | h
            · skip
              have e : y = 168 := by omega
              subst e
              exact cdxF_of cd168
            · skip
              have e : y = 169 := by omega
              subst e
              exact cdxF_of cd169
    · skip
      rcases Nat.lt_or_ge y 175 with h | h
      · skip
        rcases Nat.lt_or_ge y 172 with h | h
        · skip
          rcases Nat.lt_or_ge y 171 with h | h
          · skip
            have e : y = 170 := by omega
            subst e
            exact cdxF_of cd170
          · skip
            have e : y = 171 := by omega
            subst e
            exact cdxF_of cd171
        · skip
          rcases Nat.lt_or_ge y 173 with h | h
          · skip
            have e : y = 172 := by omega
            subst e
            exact cdxF_of cd172
          · skip
            rcases Nat.lt_or_ge y 174 with h | h
            · skip
              have e : y = 173 := by omega
              subst e
              exact cdxF_of cd173
            · skip
              have e : y = 174 := by omega
              subst e
              exact cdxF_of cd174
      · skip
        rcases Nat.lt_or_ge y 177 with h | h
        · skip
          rcases Nat.lt_or_ge y 176 with h | h
          · skip
            have e : y = 175 := by omega
            subst e
            exact cdxF_of cd175
          · skip
            have e : y = 176 := by omega
            subst e
            exact cdxF_of cd176
        · skip
          rcases Nat.lt_or_ge y 178 with h | h
          · skip
            have e : y = 177 := by omega
            subst e
            exact cdxF_of cd177
          · skip
            rcases Nat.lt_or_ge y 179 with h | h
            · skip
              have e : y = 178 := by omega
              subst e
              exact cdxF_of cd178
            · skip
              have e : y = 179 := by omega
              subst e
              exact cdxF_of cd179
  · skip
    rcases Nat.lt_or_ge y 190 with h | h
    · skip
      rcases Nat.lt_or_ge y 185 with h | h
      · skip
        rcases Nat.lt_or_ge y 182 with h | h
        · skip
          rcases Nat.lt_or_ge y 181 with h | h
          · skip
            have e : y = 180 := by omega
            subst e
            exact cdxF_of cd180
          · skip
            have e : y = 181 := by omega
            subst e
            exact cdxF_of cd181
        · skip
          rcases Nat.lt_or_ge y 183 with h | h
          · skip
            have e : y = 182 := by omega
            subst e
            exact cdxF_of cd182
          · skip
            rcases Nat.lt_or_ge y 184 with h | h
            · skip
              have e : y = 183 := by omega
              subst e
              exact cdxF_of cd183
            · skip
              have e : y = 184 := by omega
              subst e
              exact cdxF_of cd184
      · skip
        rcases Nat.lt_or_ge y 187 with h | h
        · skip
          rcases Nat.lt_or_ge y 186 with h | h
          · skip
            have e : y = 185 := by omega
            subst e
            exact cdxF_of cd185
          · skip
            have e : y = 186 := by omega
            subst e
            exact cdxF_of cd186
        · skip
          rcases Nat.lt_or_ge y 188 with h | h
          · skip
            have e : y = 187 := by omega
            subst e
            exact cdxF_of cd187
          · skip
            rcases Nat.lt_or_ge y 189 with h | h
            · skip
              have e : y = 188 := by omega
              subst e
              exact cdxF_of cd188
            · skip
              have e : y = 189 := by omega
              subst e
              exact cdxF_of cd189
    · skip
      rcases Nat.lt_or_ge y 195 with h | h
      · skip
        rcases Nat.lt_or_ge y 192 with h | h
        · skip
          rcases Nat.lt_or_ge y 191 with h | h
          · skip
            have e : y = 190 := by omega
            subst e
            exact cdxF_of cd190
          · skip
            have e : y = 191 := by omega
            subst e
            exact cdxF_of cd191
        · skip
          rcases Nat.lt_or_ge y 193 with h | h
          · skip
            have e : y = 192 := by omega
            subst e
            exact cdxF_of cd192
          · skip
            rcases Nat.lt_or_ge y 194 with h | h
            · skip
              have e : y = 193 := by omega
              subst e
              exact cdxF_of cd193
            · skip
              have e : y = 194 := by omega
              subst e
              exact cdxF_of cd194
      · skip
        rcases Nat.lt_or_ge y 197 with h | h
        · skip
          rcases Nat.lt_or_ge y 196 with h | h
          · skip
            have e : y = 195 := by omega
            subst e
            exact cdxF_of cd195
          · skip
            have e : y = 196 := by omega
            subst e
            exact cdxF_of cd196
        · skip
          rcases Nat.lt_or_ge y 198 with h | h
          · skip
            have e : y = 197 := by omega
            subst e
            exact cdxF_of cd197
          · skip
            rcases Nat.lt_or_ge y 199 with h | h
            · skip
              have e : y = 198 := by omega
              subst e
              exact cdxF_of cd198
            · skip
              have e : y = 199 := by omega
              subst e
              exact cdxF_of cd199
theorem hcdo200 : ∀ y, 200 ≤ y → y < 240 → cdxF y := by
  intro y ha hb
  rcases Nat.lt_or_ge y 220 with h | h
  · skip
    rcases Nat.lt_or_ge y 210 with h | h
    · skip
      rcases Nat.lt_or_ge y 205 with h | h
      · skip
        rcases Nat.lt_or_ge y 202 with h | h
        · skip
          rcases Nat.lt_or_ge y 201 with h | h
          · skip
            have e : y = 200 := by omega
            subst e
            exact cdxF_of cd200
          · skip
            have e : y = 201 := by omega
            subst e
            exact cdxF_of cd201
        · skip
          rcases Nat.lt_or_ge y 203 with h | h
          · skip
            have e : y = 202 := by omega
            subst e
            exact cdxF_of cd202
          · skip
            rcases Nat.lt_or_ge y 204 with h | h
            · skip
              have e : y = 203 := by omega
              subst e
              exact cdxF_of cd203
            · skip
              have e : y = 204 := by omega
              subst e
              exact cdxF_of cd204
      · skip
        rcases Nat.lt_or_ge y 207 with h | h
        · skip
          rcases Nat.lt_or_ge y 206 with h | h
          · skip
            have e : y = 205 := by omega
            subst e
            exact cdxF_of cd205
          · skip
            have e : y = 206 := by omega
            subst e
            exact cdxF_of cd206
        · skip
          rcases Nat.lt_or_ge y 208 with h | h
          · skip
            have e : y = 207 := by omega
            subst e
            exact cdxF_of cd207
          · skip
            rcases Nat.lt_or_ge y 209 with h | h
            · skip
              have e : y = 208 := by omega
              subst e
              exact cdxF_of cd208
            · skip
              have e : y = 209 := by omega
              subst e
              exact cdxF_of cd209
    · skip
      rcases Nat.lt_or_ge y 215 with h | h
      · skip
        rcases Nat.lt_or_ge y 212 with h | h
        · skip
          rcases Nat.lt_or_ge y 211 with h | h
          · skip
            have e : y = 210 := by omega
            subst e
            exact cdxF_of cd210
          · skip
            have e : y = 211 := by omega
            subst e
            exact cdxF_of cd211
        · skip
          rcases Nat.lt_or_ge y 213 with h | h
          · skip
            have e : y = 212 := by omega
            subst e
            exact cdxF_of cd212
          · skip
            rcases Nat.lt_or_ge y 214 with h | h
            · skip
              have e : y = 213 := by omega
              subst e
              exact cdxF_of cd213
            · skip
              have e : y = 214 := by omega
              subst e
              exact cdxF_of cd214
      · skip
        rcases Nat.lt_or_ge y 217 with h | h
        · skip
          rcases Nat.lt_or_ge y 216 with h | h
          · skip
            have e : y = 215 := by omega
            subst e
            exact cdxF_of cd215
          · skip
            have e : y = 216 := by omega
            subst e
            exact cdxF_of cd216
        · skip
          rcases Nat.lt_or_ge y 218 with h | h
          · skip
            have e : y = 217 := by omega
            subst e
            exact cdxF_of cd217
          · skip
            rcases Nat.lt_or_ge y 219 with h | h
            · skip
              have e : y = 218 := by omega
              subst e
              exact cdxF_of cd218
            · skip
              have e : y = 219 := by omega
              subst e
              exact cdxF_of cd219
  · skip
    rcases Nat.lt_or_ge y 230 with h | h
    · skip
      rcases Nat.lt_or_ge y 225 with h | h
      · skip
        rcases Nat.lt_or_ge y 222 with h | h
        · skip
          rcases Nat.lt_or_ge y 221 with h | h
          · skip
            have e : y = 220 := by omega
            subst e
            exact cdxF_of cd220
          · skip
            have e : y = 221 := by omega
            subst e
            exact cdxF_of cd221
        · skip
          rcases Nat.lt_or_ge y 223 with h | h
          · skip
            have e : y = 222 := by omega
            subst e
            exact cdxF_of cd222
          · skip
            rcases Nat.lt_or_ge y 224 with h | h
            · skip
              have e : y = 223 := by omega
              subst e
              exact cdxF_of cd223
            · skip
              have e : y = 224 := by omega
              subst e
              exact cdxF_of cd224
      · skip
        rcases Nat.lt_or_ge y 227 with h | h
        · skip
          rcases Nat.lt_or_ge y 226 with h | h
          · skip
            have e : y = 225 := by omega
            subst e
            exact cdxF_of cd225
          · skip
            have e : y = 226 := by omega
            subst e
            exact cdxF_of cd226
        · skip
          rcases Nat.lt_or_ge y 228 with h | h
          · skip
            have e : y = 227 := by omega
            subst e
            exact cdxF_of cd227
          · skip
            rcases Nat.lt_or_ge y 229 with h | h
            · skip
              have e : y = 228 := by omega
              subst e
              exact cdxF_of cd228
            · skip
              have e : y = 229 := by omega
              subst e
              exact cdxF_of cd229
    · skip
      rcases Nat.lt_or_ge y 235 with h | h
      · skip
        rcases Nat.lt_or_ge y 232 with h | h
        · skip
          rcases Nat.lt_or_ge y 231 with h | h
          · skip
            have e : y = 230 := by omega
            subst e
            exact cdxF_of cd230
          · skip
            have e : y = 231 := by omega
            subst e
            exact cdxF_of cd231
        · skip
          rcases Nat.lt_or_ge y 233 with h | h
          · skip
            have e : y = 232 := by omega
            subst e
            exact cdxF_of cd232
          · skip
            rcases Nat.lt_or_ge y 234 with h | h
            · skip
              have e : y = 233 := by omega
              subst e
              exact cdxF_of cd233
            · skip
              have e : y = 234 := by omega
              subst e
              exact cdxF_of cd234
      · skip
        rcases Nat.lt_or_ge y 237 with h | h
        · skip
          rcases Nat.lt_or_ge y 236 with h | h
          · skip
            have e : y = 235 := by omega
            subst e
            exact cdxF_of cd235
          · skip
            have e : y = 236 := by omega
            subst e
            exact cdxF_of cd236
        · skip
          rcases Nat.lt_or_ge y 238 with h | h
          · skip
            have e : y = 237 := by omega
            subst e
            exact cdxF_of cd237
          · skip
            rcases Nat.lt_or_ge y 239 with h | h
            · skip
              have e : y = 238 := by omega
              subst e
              exact cdxF_of cd238
            · skip
              have e : y = 239 := by omega
              subst e
              exact cdxF_of cd239
theorem hcdo240 : ∀ y, 240 ≤ y → y < 280 → cdxF y := by
  intro y ha hb
  rcases Nat.lt_or_ge y 260 with h | h
  · skip
    rcases Nat.lt_or_ge y 250 with h | h
    · skip
      rcases Nat.lt_or_ge y 245 with h | h
      · skip
        rcases Nat.lt_or_ge y 242 with h | h
        · skip
          rcases Nat.lt_or_ge y 241 with h | h
          · skip
            have e : y = 240 := by omega
            subst e
            exact cdxF_of cd240
          · skip
            have e : y = 241 := by omega
            subst e
            exact cdxF_of cd241
        · skip
          rcases Nat.lt_or_ge y 243 with h | h
          · skip
            have e : y = 242 := by omega
            subst e
            exact cdxF_of cd242
          · skip
            rcases Nat.lt_or_ge y 244 with h | h
            · skip
              have e : y = 243 := by omega
              subst e
              exact cdxF_of cd243
            · skip
              have e : y = 244 := by omega
              subst e
              exact cdxF_of cd244
      · skip
        rcases Nat.lt_or_ge y 247 with h | h
        · skip
          rcases Nat.lt_or_ge y 246 with h | h
          · skip
            have e : y = 245 := by omega
            subst e
            exact cdxF_of cd245
          · skip
            have e : y = 246 := by omega
            subst e
            exact cdxF_of cd246
        · skip
          rcases Nat.lt_or_ge y 248 with h | h
          · skip
            have e : y = 247 := by omega
            subst e
            exact cdxF_of cd247
          · skip
            rcases Nat.lt_or_ge y 249 with h | h
            · skip
              have e : y = 248 := by omega
              subst e
              exact cdxF_of cd248
            · skip
              have e : y = 249 := by omega
              subst e
              exact cdxF_of cd249
    · skip
      rcases Nat.lt_or_ge y 255 with h | h
      · skip
        rcases Nat.lt_or_ge y 252 with h | h
        · skip
          rcases Nat.lt_or_ge y 251 with h | h
          · skip
            have e : y = 250 := by omega
            subst e
            exact cdxF_of cd250
          · skip
            have e : y = 251 := by omega
            subst e
            exact cdxF_of cd251
        · skip
          rcases Nat.lt_or_ge y 253 with h | h
          · skip
            have e : y = 252 := by omega
            subst e
            exact cdxF_of cd252
          · skip
            rcases Nat.lt_or_ge y 254 with h | h
            · skip
              have e : y = 253 := by omega
              subst e
              exact cdxF_of cd253
            · skip
              have e : y = 254 := by omega
              subst e
              exact cdxF_of cd254
      · skip
        rcases Nat.lt_or_ge y 257 with h | h
        · skip
          rcases Nat.lt_or_ge y 256 with h | h
          · skip
            have e : y = 255 := by omega
            subst e
            exact cdxF_of cd255
          · skip
            have e : y = 256 := by omega
            subst e
            exact cdxF_of cd256
        · skip
          rcases Nat.lt_or_ge y 258 with h | h
          · skip
            have e : y = 257 := by omega
            subst e
            exact cdxF_of cd257
          · skip
            rcases Nat.lt_or_ge y 259 with h | h
            · skip
              have e : y = 258 := by omega
              subst e
              exact cdxF_of cd258
            · skip
              have e : y = 259 := by omega
              subst e
              exact cdxF_of cd259
  · skip
    rcases Nat.lt_or_ge y 270 with h | h
    · skip
      rcases Nat.lt_or_ge y 265 with h | h
      · skip
        rcases Nat.lt_or_ge y 262 with h | h
        · skip
          rcases Nat.lt_or_ge y 261 with h | h
          · skip
            have e : y = 260 := by omega
            subst e
            exact cdxF_of cd260
          · skip
            have e : y = 261 := by omega
            subst e
            exact cdxF_of cd261
        · skip
          rcases Nat.lt_or_ge y 263 with h | h
          · skip
            have e : y = 262 := by omega
            subst e
            exact cdxF_of cd262
          · skip
            rcases Nat.lt_or_ge y 264 with h | h
            · skip
              have e : y = 263 := by omega
              subst e
              exact cdxF_of cd263
            · skip
              have e : y = 264 := by omega
              subst e
              exact cdxF_of cd264
      · skip
        rcases Nat.lt_or_ge y 267 with h | h
        · skip
          rcases Nat.lt_or_ge y 266 with h | h
          · skip
            have e : y = 265 := by omega
            subst e
            exact cdxF_of cd265
          · skip
            have e : y = 266 := by omega
            subst e
            exact cdxF_of cd266
        · skip
          rcases Nat.lt_or_ge y 268 with h | h
          · skip
            have e : y = 267 := by omega
            subst e
            exact cdxF_of cd267
          · skip
            rcases Nat.lt_or_ge y 269 with h | h
            · skip
              have e : y = 268 := by omega
              subst e
              exact cdxF_of cd268
            · skip
              have e : y = 269 := by omega
              subst e
              exact cdxF_of cd269
    · skip
      rcases Nat.lt_or_ge y 275 with h | h
      · skip
        rcases Nat.lt_or_ge y 272 with h | h
        · skip
          rcases Nat.lt_or_ge y 271 with h | h
          · skip
            have e : y = 270 := by omega
            subst e
            exact cdxF_of cd270
          · skip
            have e : y = 271 := by omega
            subst e
            exact cdxF_of cd271
        · skip
          rcases Nat.lt_or_ge y 273 with h | h
          · skip
            have e : y = 272 := by omega
            subst e
            exact cdxF_of cd272
          · skip
            rcases Nat.lt_or_ge y 274 with h | h
            · skip
              have e : y = 273 := by omega
              subst e
              exact cdxF_of cd273
            · skip
              have e : y = 274 := by omega
              subst e
              exact cdxF_of cd274
      · skip
        rcases Nat.lt_or_ge y 277 with h | h
        · skip
          rcases Nat.lt_or_ge y 276 with h | h
          · skip
            have e : y = 275 := by omega
            subst e
            exact cdxF_of cd275
          · skip
            have e : y = 276 := by omega
            subst e
            exact cdxF_of cd276
        · skip
          rcases Nat.lt_or_ge y 278 with h | h
          · skip
            have e : y = 277 := by omega
            subst e
            exact cdxF_of cd277
          · skip
            rcases Nat.lt_or_ge y 279 with h | h
            · skip
              have e : y = 278 := by omega
              subst e
              exact cdxF_of cd278
            · skip
              have e : y = 279 := by omega
              subst e
              exact cdxF_of cd279
theorem hcdo280 : ∀ y, 280 ≤ y → y < 320 → cdxF y := by
  intro y ha hb
  rcases Nat.lt_or_ge y 300 with h | h
  · skip
    rcases Nat.lt_or_ge y 290 with h | h
    · skip
      rcases Nat.lt_or_ge y 285 with h | h
      · skip
        rcases Nat.lt_or_ge y 282 with h | h
        · skip
          rcases Nat.lt_or_ge y 281 with h | h
          · skip
            have e : y = 280 := by omega
            subst e
            exact cdxF_of cd280
          · skip
            have e : y = 281 := by omega
            subst e
            exact cdxF_of cd281
        · skip
          rcases Nat.lt_or_ge y 283 with h | h
          · skip
            have e : y = 282 := by omega
            subst e
            exact cdxF_of cd282
          · skip
            rcases Nat.lt_or_ge y 284 with h | h
            · skip
              have e : y = 283 := by omega
              subst e
              exact cdxF_of cd283
            · skip
              have e : y = 284 := by omega
              subst e
              exact cdxF_of cd284
      · skip
        rcases Nat.lt_or_ge y 287 with h | h
        · skip
          rcases Nat.lt_or_ge y 286 with h | h
          · skip
            have e : y = 285 := by omega
            subst e
            exact cdxF_of cd285
          · skip
            have e : y = 286 := by omega
            subst e
            exact cdxF_of cd286
        · skip
          rcases Nat.lt_or_ge y 288 with h | h
          · skip
            have e : y = 287 := by omega
            subst e
            exact cdxF_of cd287
          · skip
            rcases Nat.lt_or_ge y 289 with h | h
            · skip
              have e : y = 288 := by omega
              subst e
              exact cdxF_of cd288
            · skip
              have e : y = 289 := by omega
              subst e
              exact cdxF_of cd289
    · skip
      rcases Nat.lt_or_ge y 295 with h | h
      · skip
        rcases Nat.lt_or_ge y 292 with h | h
        · skip
          rcases Nat.lt_or_ge y 291 with h | h
          · skip
            have e : y = 290 := by omega
            subst e
            exact cdxF_of cd290
          · skip
            have e : y = 291 := by omega
            subst e
            exact cdxF_of cd291
        · skip
          rcases Nat.lt_or_ge y 293 with h | h
          · skip
            have e : y = 292 := by omega
            subst e
            exact cdxF_of cd292
          · skip
            rcases Nat.lt_or_ge y 294 with h | h
            · skip
              have e : y = 293 := by omega
              subst e
              exact cdxF_of cd293
            · skip
              have e : y = 294 := by omega
              subst e
              exact cdxF_of cd294
      · skip
        rcases Nat.lt_or_ge y 297 with h | h
        · skip
          rcases Nat.lt_or_ge y 296 with h | h
          · skip
            have e : y = 295 := by omega
            subst e
            exact cdxF_of cd295
          · skip
            have e : y = 296 := by omega
            subst e
            exact cdxF_of cd296
        · skip
          rcases Nat.lt_or_ge y 298 with h | h
          · skip
            have e : y = 297 := by omega
            subst e
            exact cdxF_of cd297
          · skip
            rcases Nat.lt_or_ge y 299 with h | h
            · skip
              have e : y = 298 := by omega
              subst e
              exact cdxF_of cd298
            · skip
              have e : y = 299 := by omega
              subst e
              exact cdxF_of cd299
  · skip
    rcases Nat.lt_or_ge y 310 with h | h
    · skip
      rcases Nat.lt_or_ge y 305 with h | h
      · skip
        rcases Nat.lt_or_ge y 302 with h | h
        · skip
          rcases Nat.lt_or_ge y 301 with h | h
          · skip
            have e : y = 300 := by omega
            subst e
            exact cdxF_of cd300
          · skip
            have e : y = 301 := by omega
            subst e
            exact cd301
        · skip
          rcases Nat.lt_or_ge y 303 with h | h
          · skip
            have e : y = 302 := by omega
            subst e
            exact cd302
          · skip
            rcases Nat.lt_or_ge y 304 with h | h
            · skip
              have e : y = 303 := by omega
              subst e
              exact cd303
            · skip
              have e : y = 304 := by omega
              subst e
              exact cd304
      · skip
        rcases Nat.lt_or_ge y 307 with h | h
        · skip
          rcases Nat.lt_or_ge y 306 with h | h
          · skip
            have e : y = 305 := by omega
            subst e
            exact cd305
          · skip
            have e : y = 306 := by omega
            subst e
            exact cdxF_of cd306
        · skip
          rcases Nat.lt_or_ge y 308 with h | h
          · skip
            have e : y = 307 := by omega
            subst e
            exact cdxF_of cd307
          · skip
            rcases Nat.lt_or_ge y 309 with h | h
            · skip
              have e : y = 308 := by omega
              subst e
              exact cdxF_of cd308
            · skip
              have e : y = 309 := by omega
              subst e
              exact cdxF_of cd309
    · skip
      rcases Nat.lt_or_ge y 315 with h | h
      · skip
        rcases Nat.lt_or_ge y 312 with h | h
        · skip
          rcases Nat.lt_or_ge y 311 with h | h
          · skip
            have e : y = 310 := by omega
            subst e
            exact cdxF_of cd310
          · skip
            have e : y = 311 := by omega
            subst e
            exact cdxF_of cd311
        · skip
          rcases Nat.lt_or_ge y 313 with h | h
          · skip
            have e : y = 312 := by omega
            subst e
            exact cdxF_of cd312
          · skip
            rcases Nat.lt_or_ge y 314 with h | h
            · skip
              have e : y = 313 := by omega
              subst e
              exact cdxF_of cd313
            · skip
              have e : y = 314 := by omega
              subst e
              exact cdxF_of cd314
      · skip
        rcases Nat.lt_or_ge y 317 with h | h
        · skip
          rcases Nat.lt_or_ge y 316 with h | h
          · skip
            have e : y = 315 := by omega
            subst e
            exact cdxF_of cd315
          · skip
            have e : y = 316 := by omega
            subst e
            exact cdxF_of cd316
        · skip
          rcases Nat.lt_or_ge y 318 with h | h
          · skip
            have e : y = 317 := by omega
            subst e
            exact cdxF_of cd317
          · skip
            rcases Nat.lt_or_ge y 319 with h | h
            · skip
              have e : y = 318 := by omega
              subst e
              exact cdxF_of cd318
            · skip
              have e : y = 319 := by omega
              subst e
              exact cdxF_of cd319
theorem hcd_all : ∀ y, 0 < y → y < 320 → cdxF y := by
  intro y h0 h320
  rcases Nat.lt_or_ge y 40 with h0 | h0
  · exact hcdo0 y (by omega) (by omega)
  rcases Nat.lt_or_ge y 80 with h1 | h1
  · exact hcdo40 y (by omega) (by omega)
  rcases Nat.lt_or_ge y 120 with h2 | h2
  · exact hcdo80 y (by omega) (by omega)
  rcases Nat.lt_or_ge y 160 with h3 | h3
  · exact hcdo120 y (by omega) (by omega)
  rcases Nat.lt_or_ge y 200 with h4 | h4
  · exact hcdo160 y (by omega) (by omega)
  rcases Nat.lt_or_ge y 240 with h5 | h5
  · exact hcdo200 y (by omega) (by omega)
  rcases Nat.lt_or_ge y 280 with h6 | h6
  · exact hcdo240 y (by omega) (by omega)
  exact hcdo280 y (by omega) (by omega)
