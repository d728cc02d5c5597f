theorem cv_L_13 : jCV RL 13 11 yX11_beans MX11_beans 2 := ⟨_, _, rfl, (jt3 25 rfl rfl), (jt3 23 rfl rfl), (jt3 24 rfl rfl), (jt1 1 rfl rfl), ⟨by decide, by decide, by decide +kernel⟩, Or.inl (jt3 22 rfl rfl)⟩
theorem cv_L_17 : jCV RL 17 12 yX12_beans MX12_beans 2 := ⟨_, _, rfl, (jt7 25 rfl rfl), (jt7 23 rfl rfl), (jt7 24 rfl rfl), (jt1 13 rfl rfl), ⟨by decide, by decide, by decide +kernel⟩, Or.inl (jt7 22 rfl rfl)⟩
theorem cv_L_18 : jCV RL 18 11 yX11_houses MX11_houses 0 := ⟨_, _, rfl, (jt3 64 rfl rfl), (jt3 62 rfl rfl), (jt3 63 rfl rfl), (jt1 1 rfl rfl), ⟨by decide, by decide, by decide +kernel⟩, Or.inl (jt3 61 rfl rfl)⟩
theorem cv_L_22 : jCV RL 22 12 yX12_houses MX12_houses 0 := ⟨_, _, rfl, (jt7 151 rfl rfl), (jt7 149 rfl rfl), (jt7 150 rfl rfl), (jt1 13 rfl rfl), ⟨by decide, by decide, by decide +kernel⟩, Or.inl (jt7 148 rfl rfl)⟩
theorem cv_L_23 : jCV RL 23 11 yX11_code MX11_code 1 := ⟨_, _, rfl, (jt3 72 rfl rfl), (jt3 70 rfl rfl), (jt3 71 rfl rfl), (jt1 1 rfl rfl), ⟨by decide, by decide, by decide +kernel⟩, Or.inl (jt3 69 rfl rfl)⟩
theorem cv_L_27 : jCV RL 27 12 yX12_code MX12_code 1 := ⟨_, _, rfl, (jt7 155 rfl rfl), (jt7 153 rfl rfl), (jt7 154 rfl rfl), (jt1 13 rfl rfl), ⟨by decide, by decide, by decide +kernel⟩, Or.inl (jt7 152 rfl rfl)⟩
theorem cv_L_28 : jCV RL 28 11 yX11_house MX11_house 1 := ⟨_, _, rfl, (jt3 96 rfl rfl), (jt3 94 rfl rfl), (jt3 95 rfl rfl), (jt1 1 rfl rfl), ⟨by decide, by decide, by decide +kernel⟩, Or.inl (jt3 93 rfl rfl)⟩
theorem cv_L_31 : jCV RL 31 12 yX12_house MX12_house 1 := ⟨_, _, rfl, (jt7 163 rfl rfl), (jt7 161 rfl rfl), (jt7 162 rfl rfl), (jt1 13 rfl rfl), ⟨by decide, by decide, by decide +kernel⟩, Or.inl (jt7 160 rfl rfl)⟩
theorem cv_L_32 : jCV RL 32 11 yX11_terms MX11_terms 2 := ⟨_, _, rfl, (jt3 108 rfl rfl), (jt3 106 rfl rfl), (jt3 107 rfl rfl), (jt1 1 rfl rfl), ⟨by decide, by decide, by decide +kernel⟩, Or.inl (jt3 105 rfl rfl)⟩
theorem cv_L_35 : jCV RL 35 12 yX12_terms MX12_terms 2 := ⟨_, _, rfl, (jt7 37 rfl rfl), (jt7 35 rfl rfl), (jt7 36 rfl rfl), (jt1 13 rfl rfl), ⟨by decide, by decide, by decide +kernel⟩, Or.inl (jt7 34 rfl rfl)⟩
theorem cv_L_36 : jCV RL 36 11 yX11_feed MX11_feed 5 := ⟨_, _, rfl, (jt3 112 rfl rfl), (jt3 110 rfl rfl), (jt3 111 rfl rfl), (jt1 1 rfl rfl), ⟨by decide, by decide, by decide +kernel⟩, Or.inl (jt3 109 rfl rfl)⟩
theorem cv_L_40 : jCV RL 40 12 yX12_feed MX12_feed 5 := ⟨_, _, rfl, (jt7 61 rfl rfl), (jt7 59 rfl rfl), (jt7 60 rfl rfl), (jt1 13 rfl rfl), ⟨by decide, by decide, by decide +kernel⟩, Or.inl (jt7 58 rfl rfl)⟩
theorem cv_L_41 : jCV RL 41 11 yX11_end MX11_end 1 := ⟨_, _, rfl, (jt3 128 rfl rfl), (jt3 126 rfl rfl), (jt3 127 rfl rfl), (jt1 1 rfl rfl), ⟨by decide, by decide, by decide +kernel⟩, Or.inl (jt3 125 rfl rfl)⟩
theorem cv_L_44 : jCV RL 44 12 yX12_end MX12_end 1 := ⟨_, _, rfl, (jt7 65 rfl rfl), (jt7 63 rfl rfl), (jt7 64 rfl rfl), (jt1 13 rfl rfl), ⟨by decide, by decide, by decide +kernel⟩, Or.inl (jt7 62 rfl rfl)⟩
theorem cv_L_45 : jCV RL 45 11 yX11_row MX11_row 0 := ⟨_, _, rfl, (jt3 136 rfl rfl), (jt3 134 rfl rfl), (jt3 135 rfl rfl), (jt1 1 rfl rfl), ⟨by decide, by decide, by decide +kernel⟩, Or.inl (jt3 133 rfl rfl)⟩
theorem cv_L_48 : jCV RL 48 12 yX12_row MX12_row 0 := ⟨_, _, rfl, (jt7 41 rfl rfl), (jt7 39 rfl rfl), (jt7 40 rfl rfl), (jt1 13 rfl rfl), ⟨by decide, by decide, by decide +kernel⟩, Or.inl (jt7 38 rfl rfl)⟩
theorem cv_L_49 : jCV RL 49 11 yX11_law MX11_law 0 := ⟨_, _, rfl, (jt3 153 rfl rfl), (jt3 151 rfl rfl), (jt3 152 rfl rfl), (jt1 1 rfl rfl), ⟨by decide, by decide, by decide +kernel⟩, Or.inl (jt3 150 rfl rfl)⟩
theorem cv_L_52 : jCV RL 52 12 yX12_law MX12_law 0 := ⟨_, _, rfl, (jt7 69 rfl rfl), (jt7 67 rfl rfl), (jt7 68 rfl rfl), (jt1 13 rfl rfl), ⟨by decide, by decide, by decide +kernel⟩, Or.inl (jt7 66 rfl rfl)⟩
theorem cv_L_53 : jCV RL 53 11 yX11_fault MX11_fault 0 := ⟨_, _, rfl, (jt4 58 rfl rfl), (jt4 56 rfl rfl), (jt4 57 rfl rfl), (jt1 1 rfl rfl), ⟨by decide, by decide, by decide +kernel⟩, Or.inl (jt4 55 rfl rfl)⟩
theorem cv_L_56 : jCV RL 56 12 yX12_fault MX12_fault 0 := ⟨_, _, rfl, (jt7 143 rfl rfl), (jt7 141 rfl rfl), (jt7 142 rfl rfl), (jt1 13 rfl rfl), ⟨by decide, by decide, by decide +kernel⟩, Or.inl (jt7 140 rfl rfl)⟩
theorem cv_L_57 : jCV RL 57 11 yX11_force MX11_force 1 := ⟨_, _, rfl, (jt4 62 rfl rfl), (jt4 60 rfl rfl), (jt4 61 rfl rfl), (jt1 1 rfl rfl), ⟨by decide, by decide, by decide +kernel⟩, Or.inl (jt4 59 rfl rfl)⟩
theorem cv_L_60 : jCV RL 60 12 yX12_force MX12_force 1 := ⟨_, _, rfl, (jt7 147 rfl rfl), (jt7 145 rfl rfl), (jt7 146 rfl rfl), (jt1 13 rfl rfl), ⟨by decide, by decide, by decide +kernel⟩, Or.inl (jt7 144 rfl rfl)⟩
theorem cv_L_61 : jCV RL 61 11 yX11_wall MX11_wall 2 := ⟨_, _, rfl, (jt4 66 rfl rfl), (jt4 64 rfl rfl), (jt4 65 rfl rfl), (jt1 1 rfl rfl), ⟨by decide, by decide, by decide +kernel⟩, Or.inl (jt4 63 rfl rfl)⟩
theorem cv_L_64 : jCV RL 64 12 yX12_wall MX12_wall 2 := ⟨_, _, rfl, (jt7 167 rfl rfl), (jt7 165 rfl rfl), (jt7 166 rfl rfl), (jt1 13 rfl rfl), ⟨by decide, by decide, by decide +kernel⟩, Or.inl (jt7 164 rfl rfl)⟩
theorem cv_L_65 : jCV RL 65 11 yX11_breach MX11_breach 2 := ⟨_, _, rfl, (jt4 79 rfl rfl), (jt4 77 rfl rfl), (jt4 78 rfl rfl), (jt1 1 rfl rfl), ⟨by decide, by decide, by decide +kernel⟩, Or.inl (jt4 76 rfl rfl)⟩
theorem cv_L_68 : jCV RL 68 12 yX12_breach MX12_breach 2 := ⟨_, _, rfl, (jt7 175 rfl rfl), (jt7 173 rfl rfl), (jt7 174 rfl rfl), (jt1 13 rfl rfl), ⟨by decide, by decide, by decide +kernel⟩, Or.inl (jt7 172 rfl rfl)⟩
theorem cv_L_69 : jCV RL 69 11 yX11_step MX11_step 3 := ⟨_, _, rfl, (jt4 87 rfl rfl), (jt4 85 rfl rfl), (jt4 86 rfl rfl), (jt1 1 rfl rfl), ⟨by decide, by decide, by decide +kernel⟩, Or.inl (jt4 84 rfl rfl)⟩
theorem cv_L_73 : jCV RL 73 12 yX12_step MX12_step 3 := ⟨_, _, rfl, (jt7 179 rfl rfl), (jt7 177 rfl rfl), (jt7 178 rfl rfl), (jt1 13 rfl rfl), ⟨by decide, by decide, by decide +kernel⟩, Or.inl (jt7 176 rfl rfl)⟩
theorem cv_L_74 : jCV RL 74 11 yX11_far MX11_far 3 := ⟨_, _, rfl, (jt4 214 rfl rfl), (jt4 212 rfl rfl), (jt4 213 rfl rfl), (jt1 1 rfl rfl), ⟨by decide, by decide, by decide +kernel⟩, Or.inl (jt4 211 rfl rfl)⟩
theorem cv_L_77 : jCV RL 77 12 yX12_far MX12_far 3 := ⟨_, _, rfl, (jt8 10 rfl rfl), (jt8 8 rfl rfl), (jt8 9 rfl rfl), (jt1 13 rfl rfl), ⟨by decide, by decide, by decide +kernel⟩, Or.inl (jt8 7 rfl rfl)⟩
theorem cv_L_78 : jCV RL 78 11 yX11_way MX11_way 3 := ⟨_, _, rfl, (jt5 27 rfl rfl), (jt5 25 rfl rfl), (jt5 26 rfl rfl), (jt1 1 rfl rfl), ⟨by decide, by decide, by decide +kernel⟩, Or.inl (jt5 24 rfl rfl)⟩
theorem cv_L_81 : jCV RL 81 12 yX12_way MX12_way 3 := ⟨_, _, rfl, (jt8 22 rfl rfl), (jt8 20 rfl rfl), (jt8 21 rfl rfl), (jt1 13 rfl rfl), ⟨by decide, by decide, by decide +kernel⟩, Or.inl (jt8 19 rfl rfl)⟩
theorem cv_L_82 : jCV RL 82 11 yX11_reach MX11_reach 2 := ⟨_, _, rfl, (jt5 39 rfl rfl), (jt5 37 rfl rfl), (jt5 38 rfl rfl), (jt1 1 rfl rfl), ⟨by decide, by decide, by decide +kernel⟩, Or.inl (jt5 36 rfl rfl)⟩
theorem cv_L_85 : jCV RL 85 12 yX12_reach MX12_reach 2 := ⟨_, _, rfl, (jt8 30 rfl rfl), (jt8 28 rfl rfl), (jt8 29 rfl rfl), (jt1 13 rfl rfl), ⟨by decide, by decide, by decide +kernel⟩, Or.inl (jt8 27 rfl rfl)⟩
theorem cv_L_86 : jCV RL 86 11 yX11_read MX11_read 2 := ⟨_, _, rfl, (jt5 47 rfl rfl), (jt5 45 rfl rfl), (jt5 46 rfl rfl), (jt1 1 rfl rfl), ⟨by decide, by decide, by decide +kernel⟩, Or.inl (jt5 44 rfl rfl)⟩
theorem cv_L_89 : jCV RL 89 12 yX12_read MX12_read 2 := ⟨_, _, rfl, (jt8 34 rfl rfl), (jt8 32 rfl rfl), (jt8 33 rfl rfl), (jt1 13 rfl rfl), ⟨by decide, by decide, by decide +kernel⟩, Or.inl (jt8 31 rfl rfl)⟩
theorem cv_L_90 : jCV RL 90 11 yX11_parted MX11_parted 2 := ⟨_, _, rfl, (jt5 59 rfl rfl), (jt5 57 rfl rfl), (jt5 58 rfl rfl), (jt1 1 rfl rfl), ⟨by decide, by decide, by decide +kernel⟩, Or.inl (jt5 56 rfl rfl)⟩
theorem cv_L_93 : jCV RL 93 12 yX12_parted MX12_parted 2 := ⟨_, _, rfl, (jt8 38 rfl rfl), (jt8 36 rfl rfl), (jt8 37 rfl rfl), (jt1 13 rfl rfl), ⟨by decide, by decide, by decide +kernel⟩, Or.inl (jt8 35 rfl rfl)⟩
theorem cv_L_94 : jCV RL 94 11 yX11_rows MX11_rows 3 := ⟨_, _, rfl, (jt5 92 rfl rfl), (jt5 90 rfl rfl), (jt5 91 rfl rfl), (jt1 1 rfl rfl), ⟨by decide, by decide, by decide +kernel⟩, Or.inl (jt5 89 rfl rfl)⟩
theorem cv_L_98 : jCV RL 98 12 yX12_rows MX12_rows 3 := ⟨_, _, rfl, (jt8 50 rfl rfl), (jt8 48 rfl rfl), (jt8 49 rfl rfl), (jt1 13 rfl rfl), ⟨by decide, by decide, by decide +kernel⟩, Or.inl (jt8 47 rfl rfl)⟩
theorem cv_L_99 : jCV RL 99 11 yX11_round MX11_round 1 := ⟨_, _, rfl, (jt5 108 rfl rfl), (jt5 106 rfl rfl), (jt5 107 rfl rfl), (jt1 1 rfl rfl), ⟨by decide, by decide, by decide +kernel⟩, Or.inl (jt5 105 rfl rfl)⟩
theorem cv_L_102 : jCV RL 102 12 yX12_round MX12_round 1 := ⟨_, _, rfl, (jt8 55 rfl rfl), (jt8 53 rfl rfl), (jt8 54 rfl rfl), (jt1 13 rfl rfl), ⟨by decide, by decide, by decide +kernel⟩, Or.inl (jt8 52 rfl rfl)⟩
theorem cv_L_103 : jCV RL 103 11 yX11_swapIf MX11_swapIf 2 := ⟨_, _, rfl, (jt5 142 rfl rfl), (jt5 140 rfl rfl), (jt5 141 rfl rfl), (jt1 1 rfl rfl), ⟨by decide, by decide, by decide +kernel⟩, Or.inl (jt5 139 rfl rfl)⟩
theorem cv_L_106 : jCV RL 106 12 yX12_swapIf MX12_swapIf 2 := ⟨_, _, rfl, (jt8 67 rfl rfl), (jt8 65 rfl rfl), (jt8 66 rfl rfl), (jt1 13 rfl rfl), ⟨by decide, by decide, by decide +kernel⟩, Or.inl (jt8 64 rfl rfl)⟩
theorem cv_L_107 : jCV RL 107 11 yX11_keep MX11_keep 1 := ⟨_, _, rfl, (jt5 147 rfl rfl), (jt5 145 rfl rfl), (jt5 146 rfl rfl), (jt1 1 rfl rfl), ⟨by decide, by decide, by decide +kernel⟩, Or.inl (jt5 144 rfl rfl)⟩
theorem cv_L_110 : jCV RL 110 12 yX12_keep MX12_keep 1 := ⟨_, _, rfl, (jt8 71 rfl rfl), (jt8 69 rfl rfl), (jt8 70 rfl rfl), (jt1 13 rfl rfl), ⟨by decide, by decide, by decide +kernel⟩, Or.inl (jt8 68 rfl rfl)⟩
theorem cv_L_111 : jCV RL 111 11 yX11_sorts MX11_sorts 1 := ⟨_, _, rfl, (jt5 151 rfl rfl), (jt5 149 rfl rfl), (jt5 150 rfl rfl), (jt1 1 rfl rfl), ⟨by decide, by decide, by decide +kernel⟩, Or.inl (jt5 148 rfl rfl)⟩
theorem cv_L_114 : jCV RL 114 12 yX12_sorts MX12_sorts 1 := ⟨_, _, rfl, (jt8 75 rfl rfl), (jt8 73 rfl rfl), (jt8 74 rfl rfl), (jt1 13 rfl rfl), ⟨by decide, by decide, by decide +kernel⟩, Or.inl (jt8 72 rfl rfl)⟩
theorem cv_L_115 : jCV RL 115 11 yX11_sorted MX11_sorted 1 := ⟨_, _, rfl, (jt5 189 rfl rfl), (jt5 187 rfl rfl), (jt5 188 rfl rfl), (jt1 1 rfl rfl), ⟨by decide, by decide, by decide +kernel⟩, Or.inl (jt5 186 rfl rfl)⟩
theorem cv_L_118 : jCV RL 118 12 yX12_sorted MX12_sorted 1 := ⟨_, _, rfl, (jt8 87 rfl rfl), (jt8 85 rfl rfl), (jt8 86 rfl rfl), (jt1 13 rfl rfl), ⟨by decide, by decide, by decide +kernel⟩, Or.inl (jt8 84 rfl rfl)⟩
theorem cv_L_119 : jCV RL 119 11 yX11_clue MX11_clue 2 := ⟨_, _, rfl, (jt5 198 rfl rfl), (jt5 196 rfl rfl), (jt5 197 rfl rfl), (jt1 1 rfl rfl), ⟨by decide, by decide, by decide +kernel⟩, Or.inl (jt5 195 rfl rfl)⟩
theorem cv_L_122 : jCV RL 122 12 yX12_clue MX12_clue 2 := ⟨_, _, rfl, (jt8 91 rfl rfl), (jt8 89 rfl rfl), (jt8 90 rfl rfl), (jt1 13 rfl rfl), ⟨by decide, by decide, by decide +kernel⟩, Or.inl (jt8 88 rfl rfl)⟩
theorem cv_L_123 : jCV RL 123 11 yX11_forget MX11_forget 0 := ⟨_, _, rfl, (jt5 210 rfl rfl), (jt5 208 rfl rfl), (jt5 209 rfl rfl), (jt1 1 rfl rfl), ⟨by decide, by decide, by decide +kernel⟩, Or.inl (jt5 207 rfl rfl)⟩
theorem cv_L_126 : jCV RL 126 12 yX12_forget MX12_forget 0 := ⟨_, _, rfl, (jt8 95 rfl rfl), (jt8 93 rfl rfl), (jt8 94 rfl rfl), (jt1 13 rfl rfl), ⟨by decide, by decide, by decide +kernel⟩, Or.inl (jt8 92 rfl rfl)⟩
theorem cv_L_127 : jCV RL 127 11 yX11_fits MX11_fits 1 := ⟨_, _, rfl, (jt5 214 rfl rfl), (jt5 212 rfl rfl), (jt5 213 rfl rfl), (jt1 1 rfl rfl), ⟨by decide, by decide, by decide +kernel⟩, Or.inl (jt5 211 rfl rfl)⟩
theorem cv_L_130 : jCV RL 130 12 yX12_fits MX12_fits 1 := ⟨_, _, rfl, (jt8 99 rfl rfl), (jt8 97 rfl rfl), (jt8 98 rfl rfl), (jt1 13 rfl rfl), ⟨by decide, by decide, by decide +kernel⟩, Or.inl (jt8 96 rfl rfl)⟩
theorem cv_L_131 : jCV RL 131 11 yX11_ask MX11_ask 1 := ⟨_, _, rfl, (jt5 233 rfl rfl), (jt5 231 rfl rfl), (jt5 232 rfl rfl), (jt1 1 rfl rfl), ⟨by decide, by decide, by decide +kernel⟩, Or.inl (jt5 230 rfl rfl)⟩
theorem cv_L_134 : jCV RL 134 12 yX12_ask MX12_ask 1 := ⟨_, _, rfl, (jt8 107 rfl rfl), (jt8 105 rfl rfl), (jt8 106 rfl rfl), (jt1 13 rfl rfl), ⟨by decide, by decide, by decide +kernel⟩, Or.inl (jt8 104 rfl rfl)⟩
theorem cv_L_135 : jCV RL 135 11 yX11_post MX11_post 4 := ⟨_, _, rfl, (jt6 18 rfl rfl), (jt6 16 rfl rfl), (jt6 17 rfl rfl), (jt1 1 rfl rfl), ⟨by decide, by decide, by decide +kernel⟩, Or.inl (jt6 15 rfl rfl)⟩
theorem cv_L_139 : jCV RL 139 12 yX12_post MX12_post 4 := ⟨_, _, rfl, (jt8 111 rfl rfl), (jt8 109 rfl rfl), (jt8 110 rfl rfl), (jt1 13 rfl rfl), ⟨by decide, by decide, by decide +kernel⟩, Or.inl (jt8 108 rfl rfl)⟩
theorem cv_L_140 : jCV RL 140 11 yX11_drunk MX11_drunk 3 := ⟨_, _, rfl, (jt6 39 rfl rfl), (jt6 37 rfl rfl), (jt6 38 rfl rfl), (jt1 1 rfl rfl), ⟨by decide, by decide, by decide +kernel⟩, Or.inl (jt6 36 rfl rfl)⟩
theorem cv_L_143 : jCV RL 143 12 yX12_drunk MX12_drunk 3 := ⟨_, _, rfl, (jt8 115 rfl rfl), (jt8 113 rfl rfl), (jt8 114 rfl rfl), (jt1 13 rfl rfl), ⟨by decide, by decide, by decide +kernel⟩, Or.inl (jt8 112 rfl rfl)⟩
theorem cv_L_144 : jCV RL 144 11 yX11_drawn MX11_drawn 1 := ⟨_, _, rfl, (jt6 45 rfl rfl), (jt6 43 rfl rfl), (jt6 44 rfl rfl), (jt1 1 rfl rfl), ⟨by decide, by decide, by decide +kernel⟩, Or.inl (jt6 42 rfl rfl)⟩
theorem cv_L_147 : jCV RL 147 12 yX12_drawn MX12_drawn 1 := ⟨_, _, rfl, (jt8 126 rfl rfl), (jt8 124 rfl rfl), (jt8 125 rfl rfl), (jt1 13 rfl rfl), ⟨by decide, by decide, by decide +kernel⟩, Or.inl (jt8 123 rfl rfl)⟩
theorem cv_L_148 : jCV RL 148 11 yX11_image MX11_image 1 := ⟨_, _, rfl, (jt6 49 rfl rfl), (jt6 47 rfl rfl), (jt6 48 rfl rfl), (jt1 1 rfl rfl), ⟨by decide, by decide, by decide +kernel⟩, Or.inl (jt6 46 rfl rfl)⟩
theorem cv_L_151 : jCV RL 151 12 yX12_image MX12_image 1 := ⟨_, _, rfl, (jt7 6 rfl rfl), (jt7 4 rfl rfl), (jt7 5 rfl rfl), (jt1 13 rfl rfl), ⟨by decide, by decide, by decide +kernel⟩, Or.inl (jt7 3 rfl rfl)⟩
theorem cv_L_152 : jCV RL 152 11 yX11_back MX11_back 1 := ⟨_, _, rfl, (jt6 58 rfl rfl), (jt6 56 rfl rfl), (jt6 57 rfl rfl), (jt1 1 rfl rfl), ⟨by decide, by decide, by decide +kernel⟩, Or.inl (jt6 55 rfl rfl)⟩
theorem cv_L_155 : jCV RL 155 12 yX12_back MX12_back 1 := ⟨_, _, rfl, (jt7 21 rfl rfl), (jt7 19 rfl rfl), (jt7 20 rfl rfl), (jt1 13 rfl rfl), ⟨by decide, by decide, by decide +kernel⟩, Or.inl (jt7 18 rfl rfl)⟩
theorem cv_L_156 : jCV RL 156 11 yX11_count MX11_count 1 := ⟨_, _, rfl, (jt6 62 rfl rfl), (jt6 60 rfl rfl), (jt6 61 rfl rfl), (jt1 1 rfl rfl), ⟨by decide, by decide, by decide +kernel⟩, Or.inl (jt6 59 rfl rfl)⟩
theorem cv_L_159 : jCV RL 159 12 yX12_count MX12_count 1 := ⟨_, _, rfl, (jt8 130 rfl rfl), (jt8 128 rfl rfl), (jt8 129 rfl rfl), (jt1 13 rfl rfl), ⟨by decide, by decide, by decide +kernel⟩, Or.inl (jt8 127 rfl rfl)⟩
theorem cv_L_160 : jCV RL 160 11 yX11_status MX11_status 0 := ⟨_, _, rfl, (jt6 66 rfl rfl), (jt6 64 rfl rfl), (jt6 65 rfl rfl), (jt1 1 rfl rfl), ⟨by decide, by decide, by decide +kernel⟩, Or.inl (jt6 63 rfl rfl)⟩
theorem cv_L_163 : jCV RL 163 12 yX12_status MX12_status 0 := ⟨_, _, rfl, (jt8 134 rfl rfl), (jt8 132 rfl rfl), (jt8 133 rfl rfl), (jt1 13 rfl rfl), ⟨by decide, by decide, by decide +kernel⟩, Or.inl (jt8 131 rfl rfl)⟩
theorem dL_law_192 : decode cL_law 192 = .ok (.aload_n 1, 1) := by decide +kernel
theorem dL_law_193 : decode cL_law 193 = .ok (.aload_n 0, 1) := by decide +kernel
theorem dL_law_194 : decode cL_law 194 = .ok (.iload_n 3, 1) := by decide +kernel
theorem dL_law_195 : decode cL_law 195 = .ok (.iconst 1, 1) := by decide +kernel
theorem dL_law_196 : decode cL_law 196 = .ok (.iadd, 1) := by decide +kernel
theorem dL_law_197 : decode cL_law 197 = .ok (.iaload, 1) := by decide +kernel
theorem dL_law_198 : decode cL_law 198 = .ok (.aload_n 0, 1) := by decide +kernel
theorem dL_law_199 : decode cL_law 199 = .ok (.iload_n 3, 1) := by decide +kernel
theorem dL_law_200 : decode cL_law 200 = .ok (.iconst 2, 1) := by decide +kernel
theorem dL_law_201 : decode cL_law 201 = .ok (.iadd, 1) := by decide +kernel
theorem dL_law_202 : decode cL_law 202 = .ok (.iaload, 1) := by decide +kernel
theorem dL_law_203 : decode cL_law 203 = .ok (.invokevirtual 13, 3) := by decide +kernel
theorem dL_law_206 : decode cL_law 206 = .ok (.pop, 1) := by decide +kernel
theorem dL_law_207 : decode cL_law 207 = .ok (.aload_n 2, 1) := by decide +kernel
theorem dL_law_208 : decode cL_law 208 = .ok (.aload_n 0, 1) := by decide +kernel
theorem dL_law_209 : decode cL_law 209 = .ok (.iload_n 3, 1) := by decide +kernel
theorem dL_law_210 : decode cL_law 210 = .ok (.iconst 1, 1) := by decide +kernel
theorem dL_law_211 : decode cL_law 211 = .ok (.iadd, 1) := by decide +kernel
theorem dL_law_212 : decode cL_law 212 = .ok (.iaload, 1) := by decide +kernel
theorem dL_law_213 : decode cL_law 213 = .ok (.aload_n 0, 1) := by decide +kernel
theorem dL_law_214 : decode cL_law 214 = .ok (.iload_n 3, 1) := by decide +kernel
theorem dL_law_215 : decode cL_law 215 = .ok (.iconst 2, 1) := by decide +kernel
theorem dL_law_216 : decode cL_law 216 = .ok (.iadd, 1) := by decide +kernel
theorem dL_law_217 : decode cL_law 217 = .ok (.iaload, 1) := by decide +kernel
theorem dL_law_218 : decode cL_law 218 = .ok (.invokevirtual 17, 3) := by decide +kernel
theorem dL_law_221 : decode cL_law 221 = .ok (.pop, 1) := by decide +kernel
theorem dL_law_222 : decode cL_law 222 = .ok (.goto 998, 3) := by decide +kernel
theorem dL_law_225 : decode cL_law 225 = .ok (.aload_n 1, 1) := by decide +kernel
theorem dL_law_226 : decode cL_law 226 = .ok (.invokevirtual 18, 3) := by decide +kernel
theorem dL_law_229 : decode cL_law 229 = .ok (.pop, 1) := by decide +kernel
theorem dL_law_230 : decode cL_law 230 = .ok (.aload_n 2, 1) := by decide +kernel
theorem dL_law_231 : decode cL_law 231 = .ok (.invokevirtual 22, 3) := by decide +kernel
theorem dL_law_234 : decode cL_law 234 = .ok (.pop, 1) := by decide +kernel
theorem dL_law_235 : decode cL_law 235 = .ok (.goto 985, 3) := by decide +kernel
theorem dL_law_238 : decode cL_law 238 = .ok (.aload_n 1, 1) := by decide +kernel
theorem dL_law_239 : decode cL_law 239 = .ok (.aload_n 0, 1) := by decide +kernel
theorem dL_law_240 : decode cL_law 240 = .ok (.iload_n 3, 1) := by decide +kernel
theorem dL_law_241 : decode cL_law 241 = .ok (.iconst 1, 1) := by decide +kernel
theorem dL_law_242 : decode cL_law 242 = .ok (.iadd, 1) := by decide +kernel
theorem dL_law_243 : decode cL_law 243 = .ok (.iaload, 1) := by decide +kernel
theorem dL_law_244 : decode cL_law 244 = .ok (.invokevirtual 23, 3) := by decide +kernel
theorem dL_law_247 : decode cL_law 247 = .ok (.pop, 1) := by decide +kernel
theorem dL_law_248 : decode cL_law 248 = .ok (.aload_n 2, 1) := by decide +kernel
theorem dL_law_249 : decode cL_law 249 = .ok (.aload_n 0, 1) := by decide +kernel
theorem dL_law_250 : decode cL_law 250 = .ok (.iload_n 3, 1) := by decide +kernel
theorem dL_law_251 : decode cL_law 251 = .ok (.iconst 1, 1) := by decide +kernel
theorem dL_law_252 : decode cL_law 252 = .ok (.iadd, 1) := by decide +kernel
theorem dL_law_253 : decode cL_law 253 = .ok (.iaload, 1) := by decide +kernel
theorem dL_law_254 : decode cL_law 254 = .ok (.invokevirtual 27, 3) := by decide +kernel
theorem dL_law_257 : decode cL_law 257 = .ok (.pop, 1) := by decide +kernel
theorem dL_law_258 : decode cL_law 258 = .ok (.goto 962, 3) := by decide +kernel
theorem dL_law_261 : decode cL_law 261 = .ok (.aload_n 1, 1) := by decide +kernel
theorem dL_law_262 : decode cL_law 262 = .ok (.aload_n 0, 1) := by decide +kernel
theorem dL_law_263 : decode cL_law 263 = .ok (.iload_n 3, 1) := by decide +kernel
theorem dL_law_264 : decode cL_law 264 = .ok (.iconst 1, 1) := by decide +kernel
theorem dL_law_265 : decode cL_law 265 = .ok (.iadd, 1) := by decide +kernel
theorem dL_law_266 : decode cL_law 266 = .ok (.iaload, 1) := by decide +kernel
theorem dL_law_267 : decode cL_law 267 = .ok (.invokevirtual 28, 3) := by decide +kernel
theorem dL_law_270 : decode cL_law 270 = .ok (.pop, 1) := by decide +kernel
theorem dL_law_271 : decode cL_law 271 = .ok (.aload_n 2, 1) := by decide +kernel
theorem dL_law_272 : decode cL_law 272 = .ok (.aload_n 0, 1) := by decide +kernel
theorem dL_law_273 : decode cL_law 273 = .ok (.iload_n 3, 1) := by decide +kernel
theorem dL_law_274 : decode cL_law 274 = .ok (.iconst 1, 1) := by decide +kernel
theorem dL_law_275 : decode cL_law 275 = .ok (.iadd, 1) := by decide +kernel
theorem dL_law_276 : decode cL_law 276 = .ok (.iaload, 1) := by decide +kernel
theorem dL_law_277 : decode cL_law 277 = .ok (.invokevirtual 31, 3) := by decide +kernel
theorem dL_law_280 : decode cL_law 280 = .ok (.pop, 1) := by decide +kernel
theorem dL_law_281 : decode cL_law 281 = .ok (.goto 939, 3) := by decide +kernel
theorem dL_law_284 : decode cL_law 284 = .ok (.aload_n 1, 1) := by decide +kernel
theorem dL_law_285 : decode cL_law 285 = .ok (.aload_n 0, 1) := by decide +kernel
theorem dL_law_286 : decode cL_law 286 = .ok (.iload_n 3, 1) := by decide +kernel
theorem dL_law_287 : decode cL_law 287 = .ok (.iconst 1, 1) := by decide +kernel
theorem dL_law_288 : decode cL_law 288 = .ok (.iadd, 1) := by decide +kernel
theorem dL_law_289 : decode cL_law 289 = .ok (.iaload, 1) := by decide +kernel
theorem dL_law_290 : decode cL_law 290 = .ok (.aload_n 0, 1) := by decide +kernel
theorem dL_law_291 : decode cL_law 291 = .ok (.iload_n 3, 1) := by decide +kernel
theorem dL_law_292 : decode cL_law 292 = .ok (.iconst 2, 1) := by decide +kernel
theorem dL_law_293 : decode cL_law 293 = .ok (.iadd, 1) := by decide +kernel
theorem dL_law_294 : decode cL_law 294 = .ok (.iaload, 1) := by decide +kernel
theorem dL_law_295 : decode cL_law 295 = .ok (.invokevirtual 32, 3) := by decide +kernel
theorem dL_law_298 : decode cL_law 298 = .ok (.pop, 1) := by decide +kernel
theorem dL_law_299 : decode cL_law 299 = .ok (.aload_n 2, 1) := by decide +kernel
theorem dL_law_300 : decode cL_law 300 = .ok (.aload_n 0, 1) := by decide +kernel
theorem dL_law_301 : decode cL_law 301 = .ok (.iload_n 3, 1) := by decide +kernel
theorem dL_law_302 : decode cL_law 302 = .ok (.iconst 1, 1) := by decide +kernel
theorem dL_law_303 : decode cL_law 303 = .ok (.iadd, 1) := by decide +kernel
theorem dL_law_304 : decode cL_law 304 = .ok (.iaload, 1) := by decide +kernel
theorem dL_law_305 : decode cL_law 305 = .ok (.aload_n 0, 1) := by decide +kernel
theorem dL_law_306 : decode cL_law 306 = .ok (.iload_n 3, 1) := by decide +kernel
theorem dL_law_307 : decode cL_law 307 = .ok (.iconst 2, 1) := by decide +kernel
theorem dL_law_308 : decode cL_law 308 = .ok (.iadd, 1) := by decide +kernel
theorem dL_law_309 : decode cL_law 309 = .ok (.iaload, 1) := by decide +kernel
theorem dL_law_310 : decode cL_law 310 = .ok (.invokevirtual 35, 3) := by decide +kernel
theorem dL_law_313 : decode cL_law 313 = .ok (.pop, 1) := by decide +kernel
theorem dL_law_314 : decode cL_law 314 = .ok (.goto 906, 3) := by decide +kernel
theorem dL_law_317 : decode cL_law 317 = .ok (.aload_n 1, 1) := by decide +kernel
theorem dL_law_318 : decode cL_law 318 = .ok (.aload_n 0, 1) := by decide +kernel
theorem dL_law_319 : decode cL_law 319 = .ok (.iload_n 3, 1) := by decide +kernel
theorem dL_law_320 : decode cL_law 320 = .ok (.iconst 1, 1) := by decide +kernel
theorem dL_law_321 : decode cL_law 321 = .ok (.iadd, 1) := by decide +kernel
theorem dL_law_322 : decode cL_law 322 = .ok (.iaload, 1) := by decide +kernel
theorem dL_law_323 : decode cL_law 323 = .ok (.aload_n 0, 1) := by decide +kernel
theorem dL_law_324 : decode cL_law 324 = .ok (.iload_n 3, 1) := by decide +kernel
theorem dL_law_325 : decode cL_law 325 = .ok (.iconst 2, 1) := by decide +kernel
theorem dL_law_326 : decode cL_law 326 = .ok (.iadd, 1) := by decide +kernel
theorem dL_law_327 : decode cL_law 327 = .ok (.iaload, 1) := by decide +kernel
theorem dL_law_328 : decode cL_law 328 = .ok (.aload_n 0, 1) := by decide +kernel
theorem dL_law_329 : decode cL_law 329 = .ok (.iload_n 3, 1) := by decide +kernel
theorem dL_law_330 : decode cL_law 330 = .ok (.iconst 3, 1) := by decide +kernel
theorem dL_law_331 : decode cL_law 331 = .ok (.iadd, 1) := by decide +kernel
theorem dL_law_332 : decode cL_law 332 = .ok (.iaload, 1) := by decide +kernel
theorem dL_law_333 : decode cL_law 333 = .ok (.aload_n 0, 1) := by decide +kernel
theorem dL_law_334 : decode cL_law 334 = .ok (.iload_n 3, 1) := by decide +kernel
theorem dL_law_335 : decode cL_law 335 = .ok (.iconst 4, 1) := by decide +kernel
theorem dL_law_336 : decode cL_law 336 = .ok (.iadd, 1) := by decide +kernel
theorem dL_law_337 : decode cL_law 337 = .ok (.iaload, 1) := by decide +kernel
theorem dL_law_338 : decode cL_law 338 = .ok (.aload_n 0, 1) := by decide +kernel
theorem dL_law_339 : decode cL_law 339 = .ok (.iload_n 3, 1) := by decide +kernel
theorem dL_law_340 : decode cL_law 340 = .ok (.iconst 5, 1) := by decide +kernel
theorem dL_law_341 : decode cL_law 341 = .ok (.iadd, 1) := by decide +kernel
theorem dL_law_342 : decode cL_law 342 = .ok (.iaload, 1) := by decide +kernel
theorem dL_law_343 : decode cL_law 343 = .ok (.invokevirtual 36, 3) := by decide +kernel
theorem dL_law_346 : decode cL_law 346 = .ok (.pop, 1) := by decide +kernel
theorem dL_law_347 : decode cL_law 347 = .ok (.aload_n 2, 1) := by decide +kernel
theorem dL_law_348 : decode cL_law 348 = .ok (.aload_n 0, 1) := by decide +kernel
theorem dL_law_349 : decode cL_law 349 = .ok (.iload_n 3, 1) := by decide +kernel
theorem dL_law_350 : decode cL_law 350 = .ok (.iconst 1, 1) := by decide +kernel
theorem dL_law_351 : decode cL_law 351 = .ok (.iadd, 1) := by decide +kernel
theorem dL_law_352 : decode cL_law 352 = .ok (.iaload, 1) := by decide +kernel
theorem dL_law_353 : decode cL_law 353 = .ok (.aload_n 0, 1) := by decide +kernel
theorem dL_law_354 : decode cL_law 354 = .ok (.iload_n 3, 1) := by decide +kernel
theorem dL_law_355 : decode cL_law 355 = .ok (.iconst 2, 1) := by decide +kernel
theorem dL_law_356 : decode cL_law 356 = .ok (.iadd, 1) := by decide +kernel
theorem dL_law_357 : decode cL_law 357 = .ok (.iaload, 1) := by decide +kernel
theorem dL_law_358 : decode cL_law 358 = .ok (.aload_n 0, 1) := by decide +kernel
theorem dL_law_359 : decode cL_law 359 = .ok (.iload_n 3, 1) := by decide +kernel
theorem dL_law_360 : decode cL_law 360 = .ok (.iconst 3, 1) := by decide +kernel
theorem dL_law_361 : decode cL_law 361 = .ok (.iadd, 1) := by decide +kernel
theorem dL_law_362 : decode cL_law 362 = .ok (.iaload, 1) := by decide +kernel
theorem dL_law_363 : decode cL_law 363 = .ok (.aload_n 0, 1) := by decide +kernel
theorem dL_law_364 : decode cL_law 364 = .ok (.iload_n 3, 1) := by decide +kernel
theorem dL_law_365 : decode cL_law 365 = .ok (.iconst 4, 1) := by decide +kernel
theorem dL_law_366 : decode cL_law 366 = .ok (.iadd, 1) := by decide +kernel
theorem dL_law_367 : decode cL_law 367 = .ok (.iaload, 1) := by decide +kernel
theorem dL_law_368 : decode cL_law 368 = .ok (.aload_n 0, 1) := by decide +kernel
theorem dL_law_369 : decode cL_law 369 = .ok (.iload_n 3, 1) := by decide +kernel
theorem dL_law_370 : decode cL_law 370 = .ok (.iconst 5, 1) := by decide +kernel
theorem dL_law_371 : decode cL_law 371 = .ok (.iadd, 1) := by decide +kernel
theorem dL_law_372 : decode cL_law 372 = .ok (.iaload, 1) := by decide +kernel
theorem dL_law_373 : decode cL_law 373 = .ok (.invokevirtual 40, 3) := by decide +kernel
theorem dL_law_376 : decode cL_law 376 = .ok (.pop, 1) := by decide +kernel
theorem dL_law_377 : decode cL_law 377 = .ok (.goto 843, 3) := by decide +kernel
theorem dL_law_380 : decode cL_law 380 = .ok (.aload_n 1, 1) := by decide +kernel
theorem dL_law_381 : decode cL_law 381 = .ok (.aload_n 0, 1) := by decide +kernel
theorem dL_law_382 : decode cL_law 382 = .ok (.iload_n 3, 1) := by decide +kernel
theorem dL_law_383 : decode cL_law 383 = .ok (.iconst 1, 1) := by decide +kernel
theorem dL_law_384 : decode cL_law 384 = .ok (.iadd, 1) := by decide +kernel
theorem dL_law_385 : decode cL_law 385 = .ok (.iaload, 1) := by decide +kernel
theorem dL_law_386 : decode cL_law 386 = .ok (.invokevirtual 41, 3) := by decide +kernel
theorem dL_law_389 : decode cL_law 389 = .ok (.pop, 1) := by decide +kernel
theorem dL_law_390 : decode cL_law 390 = .ok (.aload_n 2, 1) := by decide +kernel
theorem dL_law_391 : decode cL_law 391 = .ok (.aload_n 0, 1) := by decide +kernel
theorem dL_law_392 : decode cL_law 392 = .ok (.iload_n 3, 1) := by decide +kernel
theorem dL_law_393 : decode cL_law 393 = .ok (.iconst 1, 1) := by decide +kernel
theorem dL_law_394 : decode cL_law 394 = .ok (.iadd, 1) := by decide +kernel
theorem dL_law_395 : decode cL_law 395 = .ok (.iaload, 1) := by decide +kernel
theorem dL_law_396 : decode cL_law 396 = .ok (.invokevirtual 44, 3) := by decide +kernel
theorem dL_law_399 : decode cL_law 399 = .ok (.pop, 1) := by decide +kernel
theorem dL_law_400 : decode cL_law 400 = .ok (.goto 820, 3) := by decide +kernel
theorem dL_law_403 : decode cL_law 403 = .ok (.aload_n 1, 1) := by decide +kernel
theorem dL_law_404 : decode cL_law 404 = .ok (.invokevirtual 45, 3) := by decide +kernel
theorem dL_law_407 : decode cL_law 407 = .ok (.aload_n 2, 1) := by decide +kernel
theorem dL_law_408 : decode cL_law 408 = .ok (.invokevirtual 48, 3) := by decide +kernel
theorem dL_law_411 : decode cL_law 411 = .ok (.if_icmp .eq 809, 3) := by decide +kernel
theorem dL_law_416 : decode cL_law 416 = .ok (.aload_n 1, 1) := by decide +kernel
theorem dL_law_417 : decode cL_law 417 = .ok (.invokevirtual 49, 3) := by decide +kernel
theorem dL_law_420 : decode cL_law 420 = .ok (.pop, 1) := by decide +kernel
theorem dL_law_421 : decode cL_law 421 = .ok (.aload_n 2, 1) := by decide +kernel
theorem dL_law_422 : decode cL_law 422 = .ok (.invokevirtual 52, 3) := by decide +kernel
theorem dL_law_425 : decode cL_law 425 = .ok (.pop, 1) := by decide +kernel
theorem dL_law_426 : decode cL_law 426 = .ok (.goto 794, 3) := by decide +kernel
theorem dL_law_429 : decode cL_law 429 = .ok (.aload_n 1, 1) := by decide +kernel
theorem dL_law_430 : decode cL_law 430 = .ok (.invokevirtual 53, 3) := by decide +kernel
theorem dL_law_433 : decode cL_law 433 = .ok (.pop, 1) := by decide +kernel
theorem dL_law_434 : decode cL_law 434 = .ok (.aload_n 2, 1) := by decide +kernel
theorem dL_law_435 : decode cL_law 435 = .ok (.invokevirtual 56, 3) := by decide +kernel
theorem dL_law_438 : decode cL_law 438 = .ok (.pop, 1) := by decide +kernel
theorem dL_law_439 : decode cL_law 439 = .ok (.goto 781, 3) := by decide +kernel
theorem dL_law_442 : decode cL_law 442 = .ok (.aload_n 1, 1) := by decide +kernel
theorem dL_law_443 : decode cL_law 443 = .ok (.aload_n 0, 1) := by decide +kernel
theorem dL_law_444 : decode cL_law 444 = .ok (.iload_n 3, 1) := by decide +kernel
theorem dL_law_445 : decode cL_law 445 = .ok (.iconst 1, 1) := by decide +kernel
theorem dL_law_446 : decode cL_law 446 = .ok (.iadd, 1) := by decide +kernel
theorem dL_law_447 : decode cL_law 447 = .ok (.iaload, 1) := by decide +kernel
theorem dL_law_448 : decode cL_law 448 = .ok (.invokevirtual 57, 3) := by decide +kernel
theorem dL_law_451 : decode cL_law 451 = .ok (.pop, 1) := by decide +kernel
theorem dL_law_452 : decode cL_law 452 = .ok (.aload_n 2, 1) := by decide +kernel
theorem dL_law_453 : decode cL_law 453 = .ok (.aload_n 0, 1) := by decide +kernel
theorem dL_law_454 : decode cL_law 454 = .ok (.iload_n 3, 1) := by decide +kernel
theorem dL_law_455 : decode cL_law 455 = .ok (.iconst 1, 1) := by decide +kernel
theorem dL_law_456 : decode cL_law 456 = .ok (.iadd, 1) := by decide +kernel
theorem dL_law_457 : decode cL_law 457 = .ok (.iaload, 1) := by decide +kernel
theorem dL_law_458 : decode cL_law 458 = .ok (.invokevirtual 60, 3) := by decide +kernel
theorem dL_law_461 : decode cL_law 461 = .ok (.pop, 1) := by decide +kernel
theorem dL_law_462 : decode cL_law 462 = .ok (.goto 758, 3) := by decide +kernel
theorem dL_law_465 : decode cL_law 465 = .ok (.aload_n 1, 1) := by decide +kernel
theorem dL_law_466 : decode cL_law 466 = .ok (.aload_n 0, 1) := by decide +kernel
theorem dL_law_467 : decode cL_law 467 = .ok (.iload_n 3, 1) := by decide +kernel
theorem dL_law_468 : decode cL_law 468 = .ok (.iconst 1, 1) := by decide +kernel
theorem dL_law_469 : decode cL_law 469 = .ok (.iadd, 1) := by decide +kernel
theorem dL_law_470 : decode cL_law 470 = .ok (.iaload, 1) := by decide +kernel
theorem dL_law_471 : decode cL_law 471 = .ok (.aload_n 0, 1) := by decide +kernel
theorem dL_law_472 : decode cL_law 472 = .ok (.iload_n 3, 1) := by decide +kernel
theorem dL_law_473 : decode cL_law 473 = .ok (.iconst 2, 1) := by decide +kernel
theorem dL_law_474 : decode cL_law 474 = .ok (.iadd, 1) := by decide +kernel
theorem dL_law_475 : decode cL_law 475 = .ok (.iaload, 1) := by decide +kernel
theorem dL_law_476 : decode cL_law 476 = .ok (.invokevirtual 61, 3) := by decide +kernel
theorem dL_law_479 : decode cL_law 479 = .ok (.pop, 1) := by decide +kernel
theorem dL_law_480 : decode cL_law 480 = .ok (.aload_n 2, 1) := by decide +kernel
theorem dL_law_481 : decode cL_law 481 = .ok (.aload_n 0, 1) := by decide +kernel
theorem dL_law_482 : decode cL_law 482 = .ok (.iload_n 3, 1) := by decide +kernel
theorem dL_law_483 : decode cL_law 483 = .ok (.iconst 1, 1) := by decide +kernel
theorem dL_law_484 : decode cL_law 484 = .ok (.iadd, 1) := by decide +kernel
theorem dL_law_485 : decode cL_law 485 = .ok (.iaload, 1) := by decide +kernel
theorem dL_law_486 : decode cL_law 486 = .ok (.aload_n 0, 1) := by decide +kernel
theorem dL_law_487 : decode cL_law 487 = .ok (.iload_n 3, 1) := by decide +kernel
theorem dL_law_488 : decode cL_law 488 = .ok (.iconst 2, 1) := by decide +kernel
theorem dL_law_489 : decode cL_law 489 = .ok (.iadd, 1) := by decide +kernel
theorem dL_law_490 : decode cL_law 490 = .ok (.iaload, 1) := by decide +kernel
theorem dL_law_491 : decode cL_law 491 = .ok (.invokevirtual 64, 3) := by decide +kernel
theorem dL_law_494 : decode cL_law 494 = .ok (.pop, 1) := by decide +kernel
theorem dL_law_495 : decode cL_law 495 = .ok (.goto 725, 3) := by decide +kernel
theorem dL_law_498 : decode cL_law 498 = .ok (.aload_n 1, 1) := by decide +kernel
theorem dL_law_499 : decode cL_law 499 = .ok (.aload_n 0, 1) := by decide +kernel
theorem dL_law_500 : decode cL_law 500 = .ok (.iload_n 3, 1) := by decide +kernel
theorem dL_law_501 : decode cL_law 501 = .ok (.iconst 1, 1) := by decide +kernel
theorem dL_law_502 : decode cL_law 502 = .ok (.iadd, 1) := by decide +kernel
theorem dL_law_503 : decode cL_law 503 = .ok (.iaload, 1) := by decide +kernel
theorem dL_law_504 : decode cL_law 504 = .ok (.aload_n 0, 1) := by decide +kernel
theorem dL_law_505 : decode cL_law 505 = .ok (.iload_n 3, 1) := by decide +kernel
theorem dL_law_506 : decode cL_law 506 = .ok (.iconst 2, 1) := by decide +kernel
theorem dL_law_507 : decode cL_law 507 = .ok (.iadd, 1) := by decide +kernel
theorem dL_law_508 : decode cL_law 508 = .ok (.iaload, 1) := by decide +kernel
theorem dL_law_509 : decode cL_law 509 = .ok (.invokevirtual 65, 3) := by decide +kernel
theorem dL_law_512 : decode cL_law 512 = .ok (.pop, 1) := by decide +kernel
theorem dL_law_513 : decode cL_law 513 = .ok (.aload_n 2, 1) := by decide +kernel
theorem dL_law_514 : decode cL_law 514 = .ok (.aload_n 0, 1) := by decide +kernel
theorem dL_law_515 : decode cL_law 515 = .ok (.iload_n 3, 1) := by decide +kernel
theorem dL_law_516 : decode cL_law 516 = .ok (.iconst 1, 1) := by decide +kernel
theorem dL_law_517 : decode cL_law 517 = .ok (.iadd, 1) := by decide +kernel
theorem dL_law_518 : decode cL_law 518 = .ok (.iaload, 1) := by decide +kernel
theorem dL_law_519 : decode cL_law 519 = .ok (.aload_n 0, 1) := by decide +kernel
theorem dL_law_520 : decode cL_law 520 = .ok (.iload_n 3, 1) := by decide +kernel
theorem dL_law_521 : decode cL_law 521 = .ok (.iconst 2, 1) := by decide +kernel
theorem dL_law_522 : decode cL_law 522 = .ok (.iadd, 1) := by decide +kernel
theorem dL_law_523 : decode cL_law 523 = .ok (.iaload, 1) := by decide +kernel
theorem dL_law_524 : decode cL_law 524 = .ok (.invokevirtual 68, 3) := by decide +kernel
theorem dL_law_527 : decode cL_law 527 = .ok (.pop, 1) := by decide +kernel
theorem dL_law_528 : decode cL_law 528 = .ok (.goto 692, 3) := by decide +kernel
theorem dL_law_531 : decode cL_law 531 = .ok (.aload_n 1, 1) := by decide +kernel
theorem dL_law_532 : decode cL_law 532 = .ok (.aload_n 0, 1) := by decide +kernel
theorem dL_law_533 : decode cL_law 533 = .ok (.iload_n 3, 1) := by decide +kernel
theorem dL_law_534 : decode cL_law 534 = .ok (.iconst 1, 1) := by decide +kernel
theorem dL_law_535 : decode cL_law 535 = .ok (.iadd, 1) := by decide +kernel
theorem dL_law_536 : decode cL_law 536 = .ok (.iaload, 1) := by decide +kernel
theorem dL_law_537 : decode cL_law 537 = .ok (.aload_n 0, 1) := by decide +kernel
theorem dL_law_538 : decode cL_law 538 = .ok (.iload_n 3, 1) := by decide +kernel
theorem dL_law_539 : decode cL_law 539 = .ok (.iconst 2, 1) := by decide +kernel
theorem dL_law_540 : decode cL_law 540 = .ok (.iadd, 1) := by decide +kernel
theorem dL_law_541 : decode cL_law 541 = .ok (.iaload, 1) := by decide +kernel
theorem dL_law_542 : decode cL_law 542 = .ok (.aload_n 0, 1) := by decide +kernel
theorem dL_law_543 : decode cL_law 543 = .ok (.iload_n 3, 1) := by decide +kernel
theorem dL_law_544 : decode cL_law 544 = .ok (.iconst 3, 1) := by decide +kernel
theorem dL_law_545 : decode cL_law 545 = .ok (.iadd, 1) := by decide +kernel
theorem dL_law_546 : decode cL_law 546 = .ok (.iaload, 1) := by decide +kernel
theorem dL_law_547 : decode cL_law 547 = .ok (.invokevirtual 69, 3) := by decide +kernel
theorem dL_law_550 : decode cL_law 550 = .ok (.pop, 1) := by decide +kernel
theorem dL_law_551 : decode cL_law 551 = .ok (.aload_n 2, 1) := by decide +kernel
theorem dL_law_552 : decode cL_law 552 = .ok (.aload_n 0, 1) := by decide +kernel
theorem dL_law_553 : decode cL_law 553 = .ok (.iload_n 3, 1) := by decide +kernel
theorem dL_law_554 : decode cL_law 554 = .ok (.iconst 1, 1) := by decide +kernel
theorem dL_law_555 : decode cL_law 555 = .ok (.iadd, 1) := by decide +kernel
theorem dL_law_556 : decode cL_law 556 = .ok (.iaload, 1) := by decide +kernel
theorem dL_law_557 : decode cL_law 557 = .ok (.aload_n 0, 1) := by decide +kernel
theorem dL_law_558 : decode cL_law 558 = .ok (.iload_n 3, 1) := by decide +kernel
theorem dL_law_559 : decode cL_law 559 = .ok (.iconst 2, 1) := by decide +kernel
theorem dL_law_560 : decode cL_law 560 = .ok (.iadd, 1) := by decide +kernel
theorem dL_law_561 : decode cL_law 561 = .ok (.iaload, 1) := by decide +kernel
theorem dL_law_562 : decode cL_law 562 = .ok (.aload_n 0, 1) := by decide +kernel
theorem dL_law_563 : decode cL_law 563 = .ok (.iload_n 3, 1) := by decide +kernel
theorem dL_law_564 : decode cL_law 564 = .ok (.iconst 3, 1) := by decide +kernel
theorem dL_law_565 : decode cL_law 565 = .ok (.iadd, 1) := by decide +kernel
theorem dL_law_566 : decode cL_law 566 = .ok (.iaload, 1) := by decide +kernel
theorem dL_law_567 : decode cL_law 567 = .ok (.invokevirtual 73, 3) := by decide +kernel
theorem dL_law_570 : decode cL_law 570 = .ok (.pop, 1) := by decide +kernel
theorem dL_law_571 : decode cL_law 571 = .ok (.goto 649, 3) := by decide +kernel
theorem dL_law_574 : decode cL_law 574 = .ok (.aload_n 1, 1) := by decide +kernel
theorem dL_law_575 : decode cL_law 575 = .ok (.aload_n 0, 1) := by decide +kernel
theorem dL_law_576 : decode cL_law 576 = .ok (.iload_n 3, 1) := by decide +kernel
theorem dL_law_577 : decode cL_law 577 = .ok (.iconst 1, 1) := by decide +kernel
theorem dL_law_578 : decode cL_law 578 = .ok (.iadd, 1) := by decide +kernel
theorem dL_law_579 : decode cL_law 579 = .ok (.iaload, 1) := by decide +kernel
theorem dL_law_580 : decode cL_law 580 = .ok (.aload_n 0, 1) := by decide +kernel
theorem dL_law_581 : decode cL_law 581 = .ok (.iload_n 3, 1) := by decide +kernel
theorem dL_law_582 : decode cL_law 582 = .ok (.iconst 2, 1) := by decide +kernel
theorem dL_law_583 : decode cL_law 583 = .ok (.iadd, 1) := by decide +kernel
theorem dL_law_584 : decode cL_law 584 = .ok (.iaload, 1) := by decide +kernel
theorem dL_law_585 : decode cL_law 585 = .ok (.aload_n 0, 1) := by decide +kernel
theorem dL_law_586 : decode cL_law 586 = .ok (.iload_n 3, 1) := by decide +kernel
theorem dL_law_587 : decode cL_law 587 = .ok (.iconst 3, 1) := by decide +kernel
theorem dL_law_588 : decode cL_law 588 = .ok (.iadd, 1) := by decide +kernel
theorem dL_law_589 : decode cL_law 589 = .ok (.iaload, 1) := by decide +kernel
theorem dL_law_590 : decode cL_law 590 = .ok (.invokevirtual 74, 3) := by decide +kernel
theorem dL_law_593 : decode cL_law 593 = .ok (.pop, 1) := by decide +kernel
theorem dL_law_594 : decode cL_law 594 = .ok (.aload_n 2, 1) := by decide +kernel
theorem dL_law_595 : decode cL_law 595 = .ok (.aload_n 0, 1) := by decide +kernel
theorem dL_law_596 : decode cL_law 596 = .ok (.iload_n 3, 1) := by decide +kernel
theorem dL_law_597 : decode cL_law 597 = .ok (.iconst 1, 1) := by decide +kernel
theorem dL_law_598 : decode cL_law 598 = .ok (.iadd, 1) := by decide +kernel
theorem dL_law_599 : decode cL_law 599 = .ok (.iaload, 1) := by decide +kernel
theorem dL_law_600 : decode cL_law 600 = .ok (.aload_n 0, 1) := by decide +kernel
theorem dL_law_601 : decode cL_law 601 = .ok (.iload_n 3, 1) := by decide +kernel
theorem dL_law_602 : decode cL_law 602 = .ok (.iconst 2, 1) := by decide +kernel
theorem dL_law_603 : decode cL_law 603 = .ok (.iadd, 1) := by decide +kernel
theorem dL_law_604 : decode cL_law 604 = .ok (.iaload, 1) := by decide +kernel
theorem dL_law_605 : decode cL_law 605 = .ok (.aload_n 0, 1) := by decide +kernel
theorem dL_law_606 : decode cL_law 606 = .ok (.iload_n 3, 1) := by decide +kernel
theorem dL_law_607 : decode cL_law 607 = .ok (.iconst 3, 1) := by decide +kernel
theorem dL_law_608 : decode cL_law 608 = .ok (.iadd, 1) := by decide +kernel
theorem dL_law_609 : decode cL_law 609 = .ok (.iaload, 1) := by decide +kernel
theorem dL_law_610 : decode cL_law 610 = .ok (.invokevirtual 77, 3) := by decide +kernel
theorem dL_law_613 : decode cL_law 613 = .ok (.pop, 1) := by decide +kernel
theorem dL_law_614 : decode cL_law 614 = .ok (.goto 606, 3) := by decide +kernel
theorem dL_law_617 : decode cL_law 617 = .ok (.aload_n 1, 1) := by decide +kernel
theorem dL_law_618 : decode cL_law 618 = .ok (.aload_n 0, 1) := by decide +kernel
theorem dL_law_619 : decode cL_law 619 = .ok (.iload_n 3, 1) := by decide +kernel
theorem dL_law_620 : decode cL_law 620 = .ok (.iconst 1, 1) := by decide +kernel
theorem dL_law_621 : decode cL_law 621 = .ok (.iadd, 1) := by decide +kernel
theorem dL_law_622 : decode cL_law 622 = .ok (.iaload, 1) := by decide +kernel
theorem dL_law_623 : decode cL_law 623 = .ok (.aload_n 0, 1) := by decide +kernel
theorem dL_law_624 : decode cL_law 624 = .ok (.iload_n 3, 1) := by decide +kernel
theorem dL_law_625 : decode cL_law 625 = .ok (.iconst 2, 1) := by decide +kernel
theorem dL_law_626 : decode cL_law 626 = .ok (.iadd, 1) := by decide +kernel
theorem dL_law_627 : decode cL_law 627 = .ok (.iaload, 1) := by decide +kernel
theorem dL_law_628 : decode cL_law 628 = .ok (.aload_n 0, 1) := by decide +kernel
theorem dL_law_629 : decode cL_law 629 = .ok (.iload_n 3, 1) := by decide +kernel
theorem dL_law_630 : decode cL_law 630 = .ok (.iconst 3, 1) := by decide +kernel
theorem dL_law_631 : decode cL_law 631 = .ok (.iadd, 1) := by decide +kernel
theorem dL_law_632 : decode cL_law 632 = .ok (.iaload, 1) := by decide +kernel
theorem dL_law_633 : decode cL_law 633 = .ok (.invokevirtual 78, 3) := by decide +kernel
theorem dL_law_636 : decode cL_law 636 = .ok (.pop, 1) := by decide +kernel
theorem dL_law_637 : decode cL_law 637 = .ok (.aload_n 2, 1) := by decide +kernel
theorem dL_law_638 : decode cL_law 638 = .ok (.aload_n 0, 1) := by decide +kernel
theorem dL_law_639 : decode cL_law 639 = .ok (.iload_n 3, 1) := by decide +kernel
theorem dL_law_640 : decode cL_law 640 = .ok (.iconst 1, 1) := by decide +kernel
theorem dL_law_641 : decode cL_law 641 = .ok (.iadd, 1) := by decide +kernel
theorem dL_law_642 : decode cL_law 642 = .ok (.iaload, 1) := by decide +kernel
theorem dL_law_643 : decode cL_law 643 = .ok (.aload_n 0, 1) := by decide +kernel
theorem dL_law_644 : decode cL_law 644 = .ok (.iload_n 3, 1) := by decide +kernel
theorem dL_law_645 : decode cL_law 645 = .ok (.iconst 2, 1) := by decide +kernel
theorem dL_law_646 : decode cL_law 646 = .ok (.iadd, 1) := by decide +kernel
theorem dL_law_647 : decode cL_law 647 = .ok (.iaload, 1) := by decide +kernel
theorem dL_law_648 : decode cL_law 648 = .ok (.aload_n 0, 1) := by decide +kernel
theorem dL_law_649 : decode cL_law 649 = .ok (.iload_n 3, 1) := by decide +kernel
theorem dL_law_650 : decode cL_law 650 = .ok (.iconst 3, 1) := by decide +kernel
theorem dL_law_651 : decode cL_law 651 = .ok (.iadd, 1) := by decide +kernel
theorem dL_law_652 : decode cL_law 652 = .ok (.iaload, 1) := by decide +kernel
theorem dL_law_653 : decode cL_law 653 = .ok (.invokevirtual 81, 3) := by decide +kernel
theorem dL_law_656 : decode cL_law 656 = .ok (.pop, 1) := by decide +kernel
theorem dL_law_657 : decode cL_law 657 = .ok (.goto 563, 3) := by decide +kernel
theorem dL_law_660 : decode cL_law 660 = .ok (.aload_n 1, 1) := by decide +kernel
theorem dL_law_661 : decode cL_law 661 = .ok (.aload_n 0, 1) := by decide +kernel
theorem dL_law_662 : decode cL_law 662 = .ok (.iload_n 3, 1) := by decide +kernel
theorem dL_law_663 : decode cL_law 663 = .ok (.iconst 1, 1) := by decide +kernel
theorem dL_law_664 : decode cL_law 664 = .ok (.iadd, 1) := by decide +kernel
theorem dL_law_665 : decode cL_law 665 = .ok (.iaload, 1) := by decide +kernel
theorem dL_law_666 : decode cL_law 666 = .ok (.aload_n 0, 1) := by decide +kernel
theorem dL_law_667 : decode cL_law 667 = .ok (.iload_n 3, 1) := by decide +kernel
theorem dL_law_668 : decode cL_law 668 = .ok (.iconst 2, 1) := by decide +kernel
theorem dL_law_669 : decode cL_law 669 = .ok (.iadd, 1) := by decide +kernel
theorem dL_law_670 : decode cL_law 670 = .ok (.iaload, 1) := by decide +kernel
theorem dL_law_671 : decode cL_law 671 = .ok (.invokevirtual 82, 3) := by decide +kernel
theorem dL_law_674 : decode cL_law 674 = .ok (.pop, 1) := by decide +kernel
theorem dL_law_675 : decode cL_law 675 = .ok (.aload_n 2, 1) := by decide +kernel
theorem dL_law_676 : decode cL_law 676 = .ok (.aload_n 0, 1) := by decide +kernel
theorem dL_law_677 : decode cL_law 677 = .ok (.iload_n 3, 1) := by decide +kernel
theorem dL_law_678 : decode cL_law 678 = .ok (.iconst 1, 1) := by decide +kernel
theorem dL_law_679 : decode cL_law 679 = .ok (.iadd, 1) := by decide +kernel
theorem dL_law_680 : decode cL_law 680 = .ok (.iaload, 1) := by decide +kernel
theorem dL_law_681 : decode cL_law 681 = .ok (.aload_n 0, 1) := by decide +kernel
theorem dL_law_682 : decode cL_law 682 = .ok (.iload_n 3, 1) := by decide +kernel
theorem dL_law_683 : decode cL_law 683 = .ok (.iconst 2, 1) := by decide +kernel
theorem dL_law_684 : decode cL_law 684 = .ok (.iadd, 1) := by decide +kernel
theorem dL_law_685 : decode cL_law 685 = .ok (.iaload, 1) := by decide +kernel
theorem dL_law_686 : decode cL_law 686 = .ok (.invokevirtual 85, 3) := by decide +kernel
theorem dL_law_689 : decode cL_law 689 = .ok (.pop, 1) := by decide +kernel
theorem dL_law_690 : decode cL_law 690 = .ok (.goto 530, 3) := by decide +kernel
theorem dL_law_693 : decode cL_law 693 = .ok (.aload_n 1, 1) := by decide +kernel
theorem dL_law_694 : decode cL_law 694 = .ok (.aload_n 0, 1) := by decide +kernel
theorem dL_law_695 : decode cL_law 695 = .ok (.iload_n 3, 1) := by decide +kernel
theorem dL_law_696 : decode cL_law 696 = .ok (.iconst 1, 1) := by decide +kernel
theorem dL_law_697 : decode cL_law 697 = .ok (.iadd, 1) := by decide +kernel
theorem dL_law_698 : decode cL_law 698 = .ok (.iaload, 1) := by decide +kernel
theorem dL_law_699 : decode cL_law 699 = .ok (.aload_n 0, 1) := by decide +kernel
theorem dL_law_700 : decode cL_law 700 = .ok (.iload_n 3, 1) := by decide +kernel
theorem dL_law_701 : decode cL_law 701 = .ok (.iconst 2, 1) := by decide +kernel
theorem dL_law_702 : decode cL_law 702 = .ok (.iadd, 1) := by decide +kernel
theorem dL_law_703 : decode cL_law 703 = .ok (.iaload, 1) := by decide +kernel
theorem dL_law_704 : decode cL_law 704 = .ok (.invokevirtual 86, 3) := by decide +kernel
theorem dL_law_707 : decode cL_law 707 = .ok (.pop, 1) := by decide +kernel
theorem dL_law_708 : decode cL_law 708 = .ok (.aload_n 2, 1) := by decide +kernel
theorem dL_law_709 : decode cL_law 709 = .ok (.aload_n 0, 1) := by decide +kernel
theorem dL_law_710 : decode cL_law 710 = .ok (.iload_n 3, 1) := by decide +kernel
theorem dL_law_711 : decode cL_law 711 = .ok (.iconst 1, 1) := by decide +kernel
theorem dL_law_712 : decode cL_law 712 = .ok (.iadd, 1) := by decide +kernel
theorem dL_law_713 : decode cL_law 713 = .ok (.iaload, 1) := by decide +kernel
theorem dL_law_714 : decode cL_law 714 = .ok (.aload_n 0, 1) := by decide +kernel
theorem dL_law_715 : decode cL_law 715 = .ok (.iload_n 3, 1) := by decide +kernel
theorem dL_law_716 : decode cL_law 716 = .ok (.iconst 2, 1) := by decide +kernel
theorem dL_law_717 : decode cL_law 717 = .ok (.iadd, 1) := by decide +kernel
theorem dL_law_718 : decode cL_law 718 = .ok (.iaload, 1) := by decide +kernel
theorem dL_law_719 : decode cL_law 719 = .ok (.invokevirtual 89, 3) := by decide +kernel
theorem dL_law_722 : decode cL_law 722 = .ok (.pop, 1) := by decide +kernel
theorem dL_law_723 : decode cL_law 723 = .ok (.goto 497, 3) := by decide +kernel
theorem dL_law_726 : decode cL_law 726 = .ok (.aload_n 1, 1) := by decide +kernel
theorem dL_law_727 : decode cL_law 727 = .ok (.aload_n 0, 1) := by decide +kernel
theorem dL_law_728 : decode cL_law 728 = .ok (.iload_n 3, 1) := by decide +kernel
theorem dL_law_729 : decode cL_law 729 = .ok (.iconst 1, 1) := by decide +kernel
theorem dL_law_730 : decode cL_law 730 = .ok (.iadd, 1) := by decide +kernel
theorem dL_law_731 : decode cL_law 731 = .ok (.iaload, 1) := by decide +kernel
theorem dL_law_732 : decode cL_law 732 = .ok (.aload_n 0, 1) := by decide +kernel
theorem dL_law_733 : decode cL_law 733 = .ok (.iload_n 3, 1) := by decide +kernel
theorem dL_law_734 : decode cL_law 734 = .ok (.iconst 2, 1) := by decide +kernel
theorem dL_law_735 : decode cL_law 735 = .ok (.iadd, 1) := by decide +kernel
theorem dL_law_736 : decode cL_law 736 = .ok (.iaload, 1) := by decide +kernel
theorem dL_law_737 : decode cL_law 737 = .ok (.invokevirtual 90, 3) := by decide +kernel
theorem dL_law_740 : decode cL_law 740 = .ok (.pop, 1) := by decide +kernel
theorem dL_law_741 : decode cL_law 741 = .ok (.aload_n 2, 1) := by decide +kernel
theorem dL_law_742 : decode cL_law 742 = .ok (.aload_n 0, 1) := by decide +kernel
theorem dL_law_743 : decode cL_law 743 = .ok (.iload_n 3, 1) := by decide +kernel
theorem dL_law_744 : decode cL_law 744 = .ok (.iconst 1, 1) := by decide +kernel
theorem dL_law_745 : decode cL_law 745 = .ok (.iadd, 1) := by decide +kernel
theorem dL_law_746 : decode cL_law 746 = .ok (.iaload, 1) := by decide +kernel
theorem dL_law_747 : decode cL_law 747 = .ok (.aload_n 0, 1) := by decide +kernel
theorem dL_law_748 : decode cL_law 748 = .ok (.iload_n 3, 1) := by decide +kernel
theorem dL_law_749 : decode cL_law 749 = .ok (.iconst 2, 1) := by decide +kernel
theorem dL_law_750 : decode cL_law 750 = .ok (.iadd, 1) := by decide +kernel
theorem dL_law_751 : decode cL_law 751 = .ok (.iaload, 1) := by decide +kernel
theorem dL_law_752 : decode cL_law 752 = .ok (.invokevirtual 93, 3) := by decide +kernel
theorem dL_law_755 : decode cL_law 755 = .ok (.pop, 1) := by decide +kernel
theorem dL_law_756 : decode cL_law 756 = .ok (.goto 464, 3) := by decide +kernel
theorem dL_law_759 : decode cL_law 759 = .ok (.aload_n 1, 1) := by decide +kernel
theorem dL_law_760 : decode cL_law 760 = .ok (.aload_n 0, 1) := by decide +kernel
theorem dL_law_761 : decode cL_law 761 = .ok (.iload_n 3, 1) := by decide +kernel
theorem dL_law_762 : decode cL_law 762 = .ok (.iconst 1, 1) := by decide +kernel
theorem dL_law_763 : decode cL_law 763 = .ok (.iadd, 1) := by decide +kernel
theorem dL_law_764 : decode cL_law 764 = .ok (.iaload, 1) := by decide +kernel
theorem dL_law_765 : decode cL_law 765 = .ok (.aload_n 0, 1) := by decide +kernel
theorem dL_law_766 : decode cL_law 766 = .ok (.iload_n 3, 1) := by decide +kernel
theorem dL_law_767 : decode cL_law 767 = .ok (.iconst 2, 1) := by decide +kernel
theorem dL_law_768 : decode cL_law 768 = .ok (.iadd, 1) := by decide +kernel
theorem dL_law_769 : decode cL_law 769 = .ok (.iaload, 1) := by decide +kernel
theorem dL_law_770 : decode cL_law 770 = .ok (.aload_n 0, 1) := by decide +kernel
theorem dL_law_771 : decode cL_law 771 = .ok (.iload_n 3, 1) := by decide +kernel
theorem dL_law_772 : decode cL_law 772 = .ok (.iconst 3, 1) := by decide +kernel
theorem dL_law_773 : decode cL_law 773 = .ok (.iadd, 1) := by decide +kernel
theorem dL_law_774 : decode cL_law 774 = .ok (.iaload, 1) := by decide +kernel
theorem dL_law_775 : decode cL_law 775 = .ok (.invokevirtual 94, 3) := by decide +kernel
theorem dL_law_778 : decode cL_law 778 = .ok (.pop2, 1) := by decide +kernel
theorem dL_law_779 : decode cL_law 779 = .ok (.aload_n 2, 1) := by decide +kernel
theorem dL_law_780 : decode cL_law 780 = .ok (.aload_n 0, 1) := by decide +kernel
theorem dL_law_781 : decode cL_law 781 = .ok (.iload_n 3, 1) := by decide +kernel
theorem dL_law_782 : decode cL_law 782 = .ok (.iconst 1, 1) := by decide +kernel
theorem dL_law_783 : decode cL_law 783 = .ok (.iadd, 1) := by decide +kernel
theorem dL_law_784 : decode cL_law 784 = .ok (.iaload, 1) := by decide +kernel
theorem dL_law_785 : decode cL_law 785 = .ok (.aload_n 0, 1) := by decide +kernel
theorem dL_law_786 : decode cL_law 786 = .ok (.iload_n 3, 1) := by decide +kernel
theorem dL_law_787 : decode cL_law 787 = .ok (.iconst 2, 1) := by decide +kernel
theorem dL_law_788 : decode cL_law 788 = .ok (.iadd, 1) := by decide +kernel
theorem dL_law_789 : decode cL_law 789 = .ok (.iaload, 1) := by decide +kernel
theorem dL_law_790 : decode cL_law 790 = .ok (.aload_n 0, 1) := by decide +kernel
theorem dL_law_791 : decode cL_law 791 = .ok (.iload_n 3, 1) := by decide +kernel
theorem dL_law_792 : decode cL_law 792 = .ok (.iconst 3, 1) := by decide +kernel
theorem dL_law_793 : decode cL_law 793 = .ok (.iadd, 1) := by decide +kernel
theorem dL_law_794 : decode cL_law 794 = .ok (.iaload, 1) := by decide +kernel
theorem dL_law_795 : decode cL_law 795 = .ok (.invokevirtual 98, 3) := by decide +kernel
theorem dL_law_798 : decode cL_law 798 = .ok (.pop2, 1) := by decide +kernel
theorem dL_law_799 : decode cL_law 799 = .ok (.goto 421, 3) := by decide +kernel
theorem dL_law_802 : decode cL_law 802 = .ok (.aload_n 1, 1) := by decide +kernel
theorem dL_law_803 : decode cL_law 803 = .ok (.aload_n 0, 1) := by decide +kernel
theorem dL_law_804 : decode cL_law 804 = .ok (.iload_n 3, 1) := by decide +kernel
theorem dL_law_805 : decode cL_law 805 = .ok (.iconst 1, 1) := by decide +kernel
theorem dL_law_806 : decode cL_law 806 = .ok (.iadd, 1) := by decide +kernel
theorem dL_law_807 : decode cL_law 807 = .ok (.iaload, 1) := by decide +kernel
theorem dL_law_808 : decode cL_law 808 = .ok (.invokevirtual 99, 3) := by decide +kernel
theorem dL_law_811 : decode cL_law 811 = .ok (.pop, 1) := by decide +kernel
theorem dL_law_812 : decode cL_law 812 = .ok (.aload_n 2, 1) := by decide +kernel
theorem dL_law_813 : decode cL_law 813 = .ok (.aload_n 0, 1) := by decide +kernel
theorem dL_law_814 : decode cL_law 814 = .ok (.iload_n 3, 1) := by decide +kernel
theorem dL_law_815 : decode cL_law 815 = .ok (.iconst 1, 1) := by decide +kernel
theorem dL_law_816 : decode cL_law 816 = .ok (.iadd, 1) := by decide +kernel
theorem dL_law_817 : decode cL_law 817 = .ok (.iaload, 1) := by decide +kernel
theorem dL_law_818 : decode cL_law 818 = .ok (.invokevirtual 102, 3) := by decide +kernel
theorem dL_law_821 : decode cL_law 821 = .ok (.pop, 1) := by decide +kernel
theorem dL_law_822 : decode cL_law 822 = .ok (.goto 398, 3) := by decide +kernel
theorem dL_law_825 : decode cL_law 825 = .ok (.aload_n 1, 1) := by decide +kernel
theorem dL_law_826 : decode cL_law 826 = .ok (.aload_n 0, 1) := by decide +kernel
theorem dL_law_827 : decode cL_law 827 = .ok (.iload_n 3, 1) := by decide +kernel
theorem dL_law_828 : decode cL_law 828 = .ok (.iconst 1, 1) := by decide +kernel
theorem dL_law_829 : decode cL_law 829 = .ok (.iadd, 1) := by decide +kernel
theorem dL_law_830 : decode cL_law 830 = .ok (.iaload, 1) := by decide +kernel
theorem dL_law_831 : decode cL_law 831 = .ok (.aload_n 0, 1) := by decide +kernel
theorem dL_law_832 : decode cL_law 832 = .ok (.iload_n 3, 1) := by decide +kernel
theorem dL_law_833 : decode cL_law 833 = .ok (.iconst 2, 1) := by decide +kernel
theorem dL_law_834 : decode cL_law 834 = .ok (.iadd, 1) := by decide +kernel
theorem dL_law_835 : decode cL_law 835 = .ok (.iaload, 1) := by decide +kernel
theorem dL_law_836 : decode cL_law 836 = .ok (.invokevirtual 103, 3) := by decide +kernel
theorem dL_law_839 : decode cL_law 839 = .ok (.pop, 1) := by decide +kernel
theorem dL_law_840 : decode cL_law 840 = .ok (.aload_n 2, 1) := by decide +kernel
theorem dL_law_841 : decode cL_law 841 = .ok (.aload_n 0, 1) := by decide +kernel
theorem dL_law_842 : decode cL_law 842 = .ok (.iload_n 3, 1) := by decide +kernel
theorem dL_law_843 : decode cL_law 843 = .ok (.iconst 1, 1) := by decide +kernel
theorem dL_law_844 : decode cL_law 844 = .ok (.iadd, 1) := by decide +kernel
theorem dL_law_845 : decode cL_law 845 = .ok (.iaload, 1) := by decide +kernel
theorem dL_law_846 : decode cL_law 846 = .ok (.aload_n 0, 1) := by decide +kernel
theorem dL_law_847 : decode cL_law 847 = .ok (.iload_n 3, 1) := by decide +kernel
theorem dL_law_848 : decode cL_law 848 = .ok (.iconst 2, 1) := by decide +kernel
theorem dL_law_849 : decode cL_law 849 = .ok (.iadd, 1) := by decide +kernel
theorem dL_law_850 : decode cL_law 850 = .ok (.iaload, 1) := by decide +kernel
theorem dL_law_851 : decode cL_law 851 = .ok (.invokevirtual 106, 3) := by decide +kernel
theorem dL_law_854 : decode cL_law 854 = .ok (.pop, 1) := by decide +kernel
theorem dL_law_855 : decode cL_law 855 = .ok (.goto 365, 3) := by decide +kernel
theorem dL_law_858 : decode cL_law 858 = .ok (.aload_n 1, 1) := by decide +kernel
theorem dL_law_859 : decode cL_law 859 = .ok (.aload_n 0, 1) := by decide +kernel
theorem dL_law_860 : decode cL_law 860 = .ok (.iload_n 3, 1) := by decide +kernel
theorem dL_law_861 : decode cL_law 861 = .ok (.iconst 1, 1) := by decide +kernel
theorem dL_law_862 : decode cL_law 862 = .ok (.iadd, 1) := by decide +kernel
theorem dL_law_863 : decode cL_law 863 = .ok (.iaload, 1) := by decide +kernel
theorem dL_law_864 : decode cL_law 864 = .ok (.invokevirtual 107, 3) := by decide +kernel
theorem dL_law_867 : decode cL_law 867 = .ok (.pop, 1) := by decide +kernel
theorem dL_law_868 : decode cL_law 868 = .ok (.aload_n 2, 1) := by decide +kernel
theorem dL_law_869 : decode cL_law 869 = .ok (.aload_n 0, 1) := by decide +kernel
theorem dL_law_870 : decode cL_law 870 = .ok (.iload_n 3, 1) := by decide +kernel
theorem dL_law_871 : decode cL_law 871 = .ok (.iconst 1, 1) := by decide +kernel
theorem dL_law_872 : decode cL_law 872 = .ok (.iadd, 1) := by decide +kernel
theorem dL_law_873 : decode cL_law 873 = .ok (.iaload, 1) := by decide +kernel
theorem dL_law_874 : decode cL_law 874 = .ok (.invokevirtual 110, 3) := by decide +kernel
theorem dL_law_877 : decode cL_law 877 = .ok (.pop, 1) := by decide +kernel
theorem dL_law_878 : decode cL_law 878 = .ok (.goto 342, 3) := by decide +kernel
theorem dL_law_881 : decode cL_law 881 = .ok (.aload_n 1, 1) := by decide +kernel
theorem dL_law_882 : decode cL_law 882 = .ok (.aload_n 0, 1) := by decide +kernel
theorem dL_law_883 : decode cL_law 883 = .ok (.iload_n 3, 1) := by decide +kernel
theorem dL_law_884 : decode cL_law 884 = .ok (.iconst 1, 1) := by decide +kernel
theorem dL_law_885 : decode cL_law 885 = .ok (.iadd, 1) := by decide +kernel
theorem dL_law_886 : decode cL_law 886 = .ok (.iaload, 1) := by decide +kernel
theorem dL_law_887 : decode cL_law 887 = .ok (.invokevirtual 111, 3) := by decide +kernel
theorem dL_law_890 : decode cL_law 890 = .ok (.pop, 1) := by decide +kernel
theorem dL_law_891 : decode cL_law 891 = .ok (.aload_n 2, 1) := by decide +kernel
theorem dL_law_892 : decode cL_law 892 = .ok (.aload_n 0, 1) := by decide +kernel
theorem dL_law_893 : decode cL_law 893 = .ok (.iload_n 3, 1) := by decide +kernel
theorem dL_law_894 : decode cL_law 894 = .ok (.iconst 1, 1) := by decide +kernel
theorem dL_law_895 : decode cL_law 895 = .ok (.iadd, 1) := by decide +kernel
theorem dL_law_896 : decode cL_law 896 = .ok (.iaload, 1) := by decide +kernel
theorem dL_law_897 : decode cL_law 897 = .ok (.invokevirtual 114, 3) := by decide +kernel
theorem dL_law_900 : decode cL_law 900 = .ok (.pop, 1) := by decide +kernel
theorem dL_law_901 : decode cL_law 901 = .ok (.goto 319, 3) := by decide +kernel
theorem dL_law_904 : decode cL_law 904 = .ok (.aload_n 1, 1) := by decide +kernel
theorem dL_law_905 : decode cL_law 905 = .ok (.aload_n 0, 1) := by decide +kernel
theorem dL_law_906 : decode cL_law 906 = .ok (.iload_n 3, 1) := by decide +kernel
theorem dL_law_907 : decode cL_law 907 = .ok (.iconst 1, 1) := by decide +kernel
theorem dL_law_908 : decode cL_law 908 = .ok (.iadd, 1) := by decide +kernel
theorem dL_law_909 : decode cL_law 909 = .ok (.iaload, 1) := by decide +kernel
theorem dL_law_910 : decode cL_law 910 = .ok (.invokevirtual 115, 3) := by decide +kernel
theorem dL_law_913 : decode cL_law 913 = .ok (.pop, 1) := by decide +kernel
theorem dL_law_914 : decode cL_law 914 = .ok (.aload_n 2, 1) := by decide +kernel
theorem dL_law_915 : decode cL_law 915 = .ok (.aload_n 0, 1) := by decide +kernel
theorem dL_law_916 : decode cL_law 916 = .ok (.iload_n 3, 1) := by decide +kernel
theorem dL_law_917 : decode cL_law 917 = .ok (.iconst 1, 1) := by decide +kernel
theorem dL_law_918 : decode cL_law 918 = .ok (.iadd, 1) := by decide +kernel
theorem dL_law_919 : decode cL_law 919 = .ok (.iaload, 1) := by decide +kernel
theorem dL_law_920 : decode cL_law 920 = .ok (.invokevirtual 118, 3) := by decide +kernel
theorem dL_law_923 : decode cL_law 923 = .ok (.pop, 1) := by decide +kernel
theorem dL_law_924 : decode cL_law 924 = .ok (.goto 296, 3) := by decide +kernel
theorem dL_law_927 : decode cL_law 927 = .ok (.aload_n 1, 1) := by decide +kernel
theorem dL_law_928 : decode cL_law 928 = .ok (.aload_n 0, 1) := by decide +kernel
theorem dL_law_929 : decode cL_law 929 = .ok (.iload_n 3, 1) := by decide +kernel
theorem dL_law_930 : decode cL_law 930 = .ok (.iconst 1, 1) := by decide +kernel
theorem dL_law_931 : decode cL_law 931 = .ok (.iadd, 1) := by decide +kernel
theorem dL_law_932 : decode cL_law 932 = .ok (.iaload, 1) := by decide +kernel
theorem dL_law_933 : decode cL_law 933 = .ok (.aload_n 0, 1) := by decide +kernel
theorem dL_law_934 : decode cL_law 934 = .ok (.iload_n 3, 1) := by decide +kernel
theorem dL_law_935 : decode cL_law 935 = .ok (.iconst 2, 1) := by decide +kernel
theorem dL_law_936 : decode cL_law 936 = .ok (.iadd, 1) := by decide +kernel
theorem dL_law_937 : decode cL_law 937 = .ok (.iaload, 1) := by decide +kernel
theorem dL_law_938 : decode cL_law 938 = .ok (.invokevirtual 119, 3) := by decide +kernel
theorem dL_law_941 : decode cL_law 941 = .ok (.pop, 1) := by decide +kernel
theorem dL_law_942 : decode cL_law 942 = .ok (.aload_n 2, 1) := by decide +kernel
theorem dL_law_943 : decode cL_law 943 = .ok (.aload_n 0, 1) := by decide +kernel
theorem dL_law_944 : decode cL_law 944 = .ok (.iload_n 3, 1) := by decide +kernel
theorem dL_law_945 : decode cL_law 945 = .ok (.iconst 1, 1) := by decide +kernel
theorem dL_law_946 : decode cL_law 946 = .ok (.iadd, 1) := by decide +kernel
theorem dL_law_947 : decode cL_law 947 = .ok (.iaload, 1) := by decide +kernel
theorem dL_law_948 : decode cL_law 948 = .ok (.aload_n 0, 1) := by decide +kernel
theorem dL_law_949 : decode cL_law 949 = .ok (.iload_n 3, 1) := by decide +kernel
theorem dL_law_950 : decode cL_law 950 = .ok (.iconst 2, 1) := by decide +kernel
theorem dL_law_951 : decode cL_law 951 = .ok (.iadd, 1) := by decide +kernel
theorem dL_law_952 : decode cL_law 952 = .ok (.iaload, 1) := by decide +kernel
theorem dL_law_953 : decode cL_law 953 = .ok (.invokevirtual 122, 3) := by decide +kernel
theorem dL_law_956 : decode cL_law 956 = .ok (.pop, 1) := by decide +kernel
theorem dL_law_957 : decode cL_law 957 = .ok (.goto 263, 3) := by decide +kernel
theorem dL_law_960 : decode cL_law 960 = .ok (.aload_n 1, 1) := by decide +kernel
theorem dL_law_961 : decode cL_law 961 = .ok (.invokevirtual 123, 3) := by decide +kernel
theorem dL_law_964 : decode cL_law 964 = .ok (.pop, 1) := by decide +kernel
theorem dL_law_965 : decode cL_law 965 = .ok (.aload_n 2, 1) := by decide +kernel
theorem dL_law_966 : decode cL_law 966 = .ok (.invokevirtual 126, 3) := by decide +kernel
theorem dL_law_969 : decode cL_law 969 = .ok (.pop, 1) := by decide +kernel
theorem dL_law_970 : decode cL_law 970 = .ok (.goto 250, 3) := by decide +kernel
theorem dL_law_973 : decode cL_law 973 = .ok (.aload_n 1, 1) := by decide +kernel
theorem dL_law_974 : decode cL_law 974 = .ok (.aload_n 0, 1) := by decide +kernel
theorem dL_law_975 : decode cL_law 975 = .ok (.iload_n 3, 1) := by decide +kernel
theorem dL_law_976 : decode cL_law 976 = .ok (.iconst 1, 1) := by decide +kernel
theorem dL_law_977 : decode cL_law 977 = .ok (.iadd, 1) := by decide +kernel
theorem dL_law_978 : decode cL_law 978 = .ok (.iaload, 1) := by decide +kernel
theorem dL_law_979 : decode cL_law 979 = .ok (.invokevirtual 127, 3) := by decide +kernel
theorem dL_law_982 : decode cL_law 982 = .ok (.pop, 1) := by decide +kernel
theorem dL_law_983 : decode cL_law 983 = .ok (.aload_n 2, 1) := by decide +kernel
theorem dL_law_984 : decode cL_law 984 = .ok (.aload_n 0, 1) := by decide +kernel
theorem dL_law_985 : decode cL_law 985 = .ok (.iload_n 3, 1) := by decide +kernel
theorem dL_law_986 : decode cL_law 986 = .ok (.iconst 1, 1) := by decide +kernel
theorem dL_law_987 : decode cL_law 987 = .ok (.iadd, 1) := by decide +kernel
theorem dL_law_988 : decode cL_law 988 = .ok (.iaload, 1) := by decide +kernel
theorem dL_law_989 : decode cL_law 989 = .ok (.invokevirtual 130, 3) := by decide +kernel
theorem dL_law_992 : decode cL_law 992 = .ok (.pop, 1) := by decide +kernel
theorem dL_law_993 : decode cL_law 993 = .ok (.goto 227, 3) := by decide +kernel
theorem dL_law_996 : decode cL_law 996 = .ok (.aload_n 1, 1) := by decide +kernel
theorem dL_law_997 : decode cL_law 997 = .ok (.aload_n 0, 1) := by decide +kernel
theorem dL_law_998 : decode cL_law 998 = .ok (.iload_n 3, 1) := by decide +kernel
theorem dL_law_999 : decode cL_law 999 = .ok (.iconst 1, 1) := by decide +kernel
theorem dL_law_1000 : decode cL_law 1000 = .ok (.iadd, 1) := by decide +kernel
theorem dL_law_1001 : decode cL_law 1001 = .ok (.iaload, 1) := by decide +kernel
theorem dL_law_1002 : decode cL_law 1002 = .ok (.invokevirtual 131, 3) := by decide +kernel
theorem dL_law_1005 : decode cL_law 1005 = .ok (.pop, 1) := by decide +kernel
theorem dL_law_1006 : decode cL_law 1006 = .ok (.aload_n 2, 1) := by decide +kernel
theorem dL_law_1007 : decode cL_law 1007 = .ok (.aload_n 0, 1) := by decide +kernel
theorem dL_law_1008 : decode cL_law 1008 = .ok (.iload_n 3, 1) := by decide +kernel
theorem dL_law_1009 : decode cL_law 1009 = .ok (.iconst 1, 1) := by decide +kernel
theorem dL_law_1010 : decode cL_law 1010 = .ok (.iadd, 1) := by decide +kernel
theorem dL_law_1011 : decode cL_law 1011 = .ok (.iaload, 1) := by decide +kernel
theorem dL_law_1012 : decode cL_law 1012 = .ok (.invokevirtual 134, 3) := by decide +kernel
theorem dL_law_1015 : decode cL_law 1015 = .ok (.pop, 1) := by decide +kernel
theorem dL_law_1016 : decode cL_law 1016 = .ok (.goto 204, 3) := by decide +kernel
theorem dL_law_1019 : decode cL_law 1019 = .ok (.aload_n 1, 1) := by decide +kernel
theorem dL_law_1020 : decode cL_law 1020 = .ok (.aload_n 0, 1) := by decide +kernel
theorem dL_law_1021 : decode cL_law 1021 = .ok (.iload_n 3, 1) := by decide +kernel
theorem dL_law_1022 : decode cL_law 1022 = .ok (.iconst 1, 1) := by decide +kernel
theorem dL_law_1023 : decode cL_law 1023 = .ok (.iadd, 1) := by decide +kernel
theorem dL_law_1024 : decode cL_law 1024 = .ok (.iaload, 1) := by decide +kernel
theorem dL_law_1025 : decode cL_law 1025 = .ok (.aload_n 0, 1) := by decide +kernel
theorem dL_law_1026 : decode cL_law 1026 = .ok (.iload_n 3, 1) := by decide +kernel
theorem dL_law_1027 : decode cL_law 1027 = .ok (.iconst 2, 1) := by decide +kernel
theorem dL_law_1028 : decode cL_law 1028 = .ok (.iadd, 1) := by decide +kernel
theorem dL_law_1029 : decode cL_law 1029 = .ok (.iaload, 1) := by decide +kernel
theorem dL_law_1030 : decode cL_law 1030 = .ok (.aload_n 0, 1) := by decide +kernel
theorem dL_law_1031 : decode cL_law 1031 = .ok (.iload_n 3, 1) := by decide +kernel
theorem dL_law_1032 : decode cL_law 1032 = .ok (.iconst 3, 1) := by decide +kernel
theorem dL_law_1033 : decode cL_law 1033 = .ok (.iadd, 1) := by decide +kernel
theorem dL_law_1034 : decode cL_law 1034 = .ok (.iaload, 1) := by decide +kernel
theorem dL_law_1035 : decode cL_law 1035 = .ok (.aload_n 0, 1) := by decide +kernel
theorem dL_law_1036 : decode cL_law 1036 = .ok (.iload_n 3, 1) := by decide +kernel
theorem dL_law_1037 : decode cL_law 1037 = .ok (.iconst 4, 1) := by decide +kernel
theorem dL_law_1038 : decode cL_law 1038 = .ok (.iadd, 1) := by decide +kernel
theorem dL_law_1039 : decode cL_law 1039 = .ok (.iaload, 1) := by decide +kernel
theorem dL_law_1040 : decode cL_law 1040 = .ok (.invokevirtual 135, 3) := by decide +kernel
theorem dL_law_1043 : decode cL_law 1043 = .ok (.pop, 1) := by decide +kernel
theorem dL_law_1044 : decode cL_law 1044 = .ok (.aload_n 2, 1) := by decide +kernel
theorem dL_law_1045 : decode cL_law 1045 = .ok (.aload_n 0, 1) := by decide +kernel
theorem dL_law_1046 : decode cL_law 1046 = .ok (.iload_n 3, 1) := by decide +kernel
theorem dL_law_1047 : decode cL_law 1047 = .ok (.iconst 1, 1) := by decide +kernel
theorem dL_law_1048 : decode cL_law 1048 = .ok (.iadd, 1) := by decide +kernel
theorem dL_law_1049 : decode cL_law 1049 = .ok (.iaload, 1) := by decide +kernel
theorem dL_law_1050 : decode cL_law 1050 = .ok (.aload_n 0, 1) := by decide +kernel
theorem dL_law_1051 : decode cL_law 1051 = .ok (.iload_n 3, 1) := by decide +kernel
theorem dL_law_1052 : decode cL_law 1052 = .ok (.iconst 2, 1) := by decide +kernel
theorem dL_law_1053 : decode cL_law 1053 = .ok (.iadd, 1) := by decide +kernel
theorem dL_law_1054 : decode cL_law 1054 = .ok (.iaload, 1) := by decide +kernel
theorem dL_law_1055 : decode cL_law 1055 = .ok (.aload_n 0, 1) := by decide +kernel
theorem dL_law_1056 : decode cL_law 1056 = .ok (.iload_n 3, 1) := by decide +kernel
theorem dL_law_1057 : decode cL_law 1057 = .ok (.iconst 3, 1) := by decide +kernel
theorem dL_law_1058 : decode cL_law 1058 = .ok (.iadd, 1) := by decide +kernel
theorem dL_law_1059 : decode cL_law 1059 = .ok (.iaload, 1) := by decide +kernel
theorem dL_law_1060 : decode cL_law 1060 = .ok (.aload_n 0, 1) := by decide +kernel
theorem dL_law_1061 : decode cL_law 1061 = .ok (.iload_n 3, 1) := by decide +kernel
theorem dL_law_1062 : decode cL_law 1062 = .ok (.iconst 4, 1) := by decide +kernel
theorem dL_law_1063 : decode cL_law 1063 = .ok (.iadd, 1) := by decide +kernel
theorem dL_law_1064 : decode cL_law 1064 = .ok (.iaload, 1) := by decide +kernel
theorem dL_law_1065 : decode cL_law 1065 = .ok (.invokevirtual 139, 3) := by decide +kernel
theorem dL_law_1068 : decode cL_law 1068 = .ok (.pop, 1) := by decide +kernel
theorem dL_law_1069 : decode cL_law 1069 = .ok (.goto 151, 3) := by decide +kernel
theorem dL_law_1072 : decode cL_law 1072 = .ok (.aload_n 1, 1) := by decide +kernel
theorem dL_law_1073 : decode cL_law 1073 = .ok (.aload_n 0, 1) := by decide +kernel
theorem dL_law_1074 : decode cL_law 1074 = .ok (.iload_n 3, 1) := by decide +kernel
theorem dL_law_1075 : decode cL_law 1075 = .ok (.iconst 1, 1) := by decide +kernel
theorem dL_law_1076 : decode cL_law 1076 = .ok (.iadd, 1) := by decide +kernel
theorem dL_law_1077 : decode cL_law 1077 = .ok (.iaload, 1) := by decide +kernel
theorem dL_law_1078 : decode cL_law 1078 = .ok (.aload_n 0, 1) := by decide +kernel
theorem dL_law_1079 : decode cL_law 1079 = .ok (.iload_n 3, 1) := by decide +kernel
theorem dL_law_1080 : decode cL_law 1080 = .ok (.iconst 2, 1) := by decide +kernel
theorem dL_law_1081 : decode cL_law 1081 = .ok (.iadd, 1) := by decide +kernel
theorem dL_law_1082 : decode cL_law 1082 = .ok (.iaload, 1) := by decide +kernel
theorem dL_law_1083 : decode cL_law 1083 = .ok (.aload_n 0, 1) := by decide +kernel
theorem dL_law_1084 : decode cL_law 1084 = .ok (.iload_n 3, 1) := by decide +kernel
theorem dL_law_1085 : decode cL_law 1085 = .ok (.iconst 3, 1) := by decide +kernel
theorem dL_law_1086 : decode cL_law 1086 = .ok (.iadd, 1) := by decide +kernel
theorem dL_law_1087 : decode cL_law 1087 = .ok (.iaload, 1) := by decide +kernel
theorem dL_law_1088 : decode cL_law 1088 = .ok (.invokevirtual 140, 3) := by decide +kernel
theorem dL_law_1091 : decode cL_law 1091 = .ok (.pop, 1) := by decide +kernel
theorem dL_law_1092 : decode cL_law 1092 = .ok (.aload_n 2, 1) := by decide +kernel
theorem dL_law_1093 : decode cL_law 1093 = .ok (.aload_n 0, 1) := by decide +kernel
theorem dL_law_1094 : decode cL_law 1094 = .ok (.iload_n 3, 1) := by decide +kernel
theorem dL_law_1095 : decode cL_law 1095 = .ok (.iconst 1, 1) := by decide +kernel
theorem dL_law_1096 : decode cL_law 1096 = .ok (.iadd, 1) := by decide +kernel
theorem dL_law_1097 : decode cL_law 1097 = .ok (.iaload, 1) := by decide +kernel
theorem dL_law_1098 : decode cL_law 1098 = .ok (.aload_n 0, 1) := by decide +kernel
theorem dL_law_1099 : decode cL_law 1099 = .ok (.iload_n 3, 1) := by decide +kernel
theorem dL_law_1100 : decode cL_law 1100 = .ok (.iconst 2, 1) := by decide +kernel
theorem dL_law_1101 : decode cL_law 1101 = .ok (.iadd, 1) := by decide +kernel
theorem dL_law_1102 : decode cL_law 1102 = .ok (.iaload, 1) := by decide +kernel
theorem dL_law_1103 : decode cL_law 1103 = .ok (.aload_n 0, 1) := by decide +kernel
theorem dL_law_1104 : decode cL_law 1104 = .ok (.iload_n 3, 1) := by decide +kernel
theorem dL_law_1105 : decode cL_law 1105 = .ok (.iconst 3, 1) := by decide +kernel
theorem dL_law_1106 : decode cL_law 1106 = .ok (.iadd, 1) := by decide +kernel
theorem dL_law_1107 : decode cL_law 1107 = .ok (.iaload, 1) := by decide +kernel
theorem dL_law_1108 : decode cL_law 1108 = .ok (.invokevirtual 143, 3) := by decide +kernel
theorem dL_law_1111 : decode cL_law 1111 = .ok (.pop, 1) := by decide +kernel
theorem dL_law_1112 : decode cL_law 1112 = .ok (.goto 108, 3) := by decide +kernel
theorem dL_law_1115 : decode cL_law 1115 = .ok (.aload_n 1, 1) := by decide +kernel
theorem dL_law_1116 : decode cL_law 1116 = .ok (.aload_n 0, 1) := by decide +kernel
theorem dL_law_1117 : decode cL_law 1117 = .ok (.iload_n 3, 1) := by decide +kernel
theorem dL_law_1118 : decode cL_law 1118 = .ok (.iconst 1, 1) := by decide +kernel
theorem dL_law_1119 : decode cL_law 1119 = .ok (.iadd, 1) := by decide +kernel
theorem dL_law_1120 : decode cL_law 1120 = .ok (.iaload, 1) := by decide +kernel
theorem dL_law_1121 : decode cL_law 1121 = .ok (.invokevirtual 144, 3) := by decide +kernel
theorem dL_law_1124 : decode cL_law 1124 = .ok (.pop, 1) := by decide +kernel
theorem dL_law_1125 : decode cL_law 1125 = .ok (.aload_n 2, 1) := by decide +kernel
theorem dL_law_1126 : decode cL_law 1126 = .ok (.aload_n 0, 1) := by decide +kernel
theorem dL_law_1127 : decode cL_law 1127 = .ok (.iload_n 3, 1) := by decide +kernel
theorem dL_law_1128 : decode cL_law 1128 = .ok (.iconst 1, 1) := by decide +kernel
theorem dL_law_1129 : decode cL_law 1129 = .ok (.iadd, 1) := by decide +kernel
theorem dL_law_1130 : decode cL_law 1130 = .ok (.iaload, 1) := by decide +kernel
theorem dL_law_1131 : decode cL_law 1131 = .ok (.invokevirtual 147, 3) := by decide +kernel
theorem dL_law_1134 : decode cL_law 1134 = .ok (.pop, 1) := by decide +kernel
theorem dL_law_1135 : decode cL_law 1135 = .ok (.goto 85, 3) := by decide +kernel
theorem dL_law_1138 : decode cL_law 1138 = .ok (.aload_n 1, 1) := by decide +kernel
theorem dL_law_1139 : decode cL_law 1139 = .ok (.aload_n 0, 1) := by decide +kernel
theorem dL_law_1140 : decode cL_law 1140 = .ok (.iload_n 3, 1) := by decide +kernel
theorem dL_law_1141 : decode cL_law 1141 = .ok (.iconst 1, 1) := by decide +kernel
theorem dL_law_1142 : decode cL_law 1142 = .ok (.iadd, 1) := by decide +kernel
theorem dL_law_1143 : decode cL_law 1143 = .ok (.iaload, 1) := by decide +kernel
theorem dL_law_1144 : decode cL_law 1144 = .ok (.invokevirtual 148, 3) := by decide +kernel
theorem dL_law_1147 : decode cL_law 1147 = .ok (.pop, 1) := by decide +kernel
theorem dL_law_1148 : decode cL_law 1148 = .ok (.aload_n 2, 1) := by decide +kernel
theorem dL_law_1149 : decode cL_law 1149 = .ok (.aload_n 0, 1) := by decide +kernel
theorem dL_law_1150 : decode cL_law 1150 = .ok (.iload_n 3, 1) := by decide +kernel
theorem dL_law_1151 : decode cL_law 1151 = .ok (.iconst 1, 1) := by decide +kernel
theorem dL_law_1152 : decode cL_law 1152 = .ok (.iadd, 1) := by decide +kernel
theorem dL_law_1153 : decode cL_law 1153 = .ok (.iaload, 1) := by decide +kernel
theorem dL_law_1154 : decode cL_law 1154 = .ok (.invokevirtual 151, 3) := by decide +kernel
theorem dL_law_1157 : decode cL_law 1157 = .ok (.pop, 1) := by decide +kernel
theorem dL_law_1158 : decode cL_law 1158 = .ok (.goto 62, 3) := by decide +kernel
theorem dL_law_1161 : decode cL_law 1161 = .ok (.aload_n 1, 1) := by decide +kernel
theorem dL_law_1162 : decode cL_law 1162 = .ok (.aload_n 0, 1) := by decide +kernel
theorem dL_law_1163 : decode cL_law 1163 = .ok (.iload_n 3, 1) := by decide +kernel
theorem dL_law_1164 : decode cL_law 1164 = .ok (.iconst 1, 1) := by decide +kernel
theorem dL_law_1165 : decode cL_law 1165 = .ok (.iadd, 1) := by decide +kernel
theorem dL_law_1166 : decode cL_law 1166 = .ok (.iaload, 1) := by decide +kernel
theorem dL_law_1167 : decode cL_law 1167 = .ok (.invokevirtual 152, 3) := by decide +kernel
theorem dL_law_1170 : decode cL_law 1170 = .ok (.pop, 1) := by decide +kernel
theorem dL_law_1171 : decode cL_law 1171 = .ok (.aload_n 2, 1) := by decide +kernel
theorem dL_law_1172 : decode cL_law 1172 = .ok (.aload_n 0, 1) := by decide +kernel
theorem dL_law_1173 : decode cL_law 1173 = .ok (.iload_n 3, 1) := by decide +kernel
theorem dL_law_1174 : decode cL_law 1174 = .ok (.iconst 1, 1) := by decide +kernel
theorem dL_law_1175 : decode cL_law 1175 = .ok (.iadd, 1) := by decide +kernel
theorem dL_law_1176 : decode cL_law 1176 = .ok (.iaload, 1) := by decide +kernel
theorem dL_law_1177 : decode cL_law 1177 = .ok (.invokevirtual 155, 3) := by decide +kernel
theorem dL_law_1180 : decode cL_law 1180 = .ok (.pop, 1) := by decide +kernel
theorem dL_law_1181 : decode cL_law 1181 = .ok (.goto 39, 3) := by decide +kernel
theorem dL_law_1184 : decode cL_law 1184 = .ok (.aload_n 1, 1) := by decide +kernel
theorem dL_law_1185 : decode cL_law 1185 = .ok (.aload_n 0, 1) := by decide +kernel
theorem dL_law_1186 : decode cL_law 1186 = .ok (.iload_n 3, 1) := by decide +kernel
theorem dL_law_1187 : decode cL_law 1187 = .ok (.iconst 1, 1) := by decide +kernel
theorem dL_law_1188 : decode cL_law 1188 = .ok (.iadd, 1) := by decide +kernel
theorem dL_law_1189 : decode cL_law 1189 = .ok (.iaload, 1) := by decide +kernel
theorem dL_law_1190 : decode cL_law 1190 = .ok (.invokevirtual 156, 3) := by decide +kernel
theorem dL_law_1193 : decode cL_law 1193 = .ok (.pop, 1) := by decide +kernel
theorem dL_law_1194 : decode cL_law 1194 = .ok (.aload_n 2, 1) := by decide +kernel
theorem dL_law_1195 : decode cL_law 1195 = .ok (.aload_n 0, 1) := by decide +kernel
theorem dL_law_1196 : decode cL_law 1196 = .ok (.iload_n 3, 1) := by decide +kernel
theorem dL_law_1197 : decode cL_law 1197 = .ok (.iconst 1, 1) := by decide +kernel
theorem dL_law_1198 : decode cL_law 1198 = .ok (.iadd, 1) := by decide +kernel
theorem dL_law_1199 : decode cL_law 1199 = .ok (.iaload, 1) := by decide +kernel
theorem dL_law_1200 : decode cL_law 1200 = .ok (.invokevirtual 159, 3) := by decide +kernel
theorem dL_law_1203 : decode cL_law 1203 = .ok (.pop, 1) := by decide +kernel
theorem dL_law_1204 : decode cL_law 1204 = .ok (.goto 16, 3) := by decide +kernel
theorem dL_law_1207 : decode cL_law 1207 = .ok (.aload_n 1, 1) := by decide +kernel
theorem dL_law_1208 : decode cL_law 1208 = .ok (.invokevirtual 160, 3) := by decide +kernel
theorem dL_law_1211 : decode cL_law 1211 = .ok (.pop, 1) := by decide +kernel
theorem dL_law_1212 : decode cL_law 1212 = .ok (.aload_n 2, 1) := by decide +kernel
theorem dL_law_1213 : decode cL_law 1213 = .ok (.invokevirtual 163, 3) := by decide +kernel
theorem dL_law_1216 : decode cL_law 1216 = .ok (.pop, 1) := by decide +kernel
theorem dL_law_1217 : decode cL_law 1217 = .ok (.goto 3, 3) := by decide +kernel
theorem dL_law_18 : decode cL_law 18 = .ok (.iload_n 3, 1) := by decide +kernel
theorem dL_law_19 : decode cL_law 19 = .ok (.aload_n 0, 1) := by decide +kernel
theorem dL_law_20 : decode cL_law 20 = .ok (.arraylength, 1) := by decide +kernel
theorem dL_law_21 : decode cL_law 21 = .ok (.bipush 6, 2) := by decide +kernel
theorem dL_law_23 : decode cL_law 23 = .ok (.isub, 1) := by decide +kernel
theorem dL_law_24 : decode cL_law 24 = .ok (.if_icmp .gt 1202, 3) := by decide +kernel
theorem dL_law_1226 : decode cL_law 1226 = .ok (.iconst 1, 1) := by decide +kernel
theorem dL_law_1227 : decode cL_law 1227 = .ok (.ireturn, 1) := by decide +kernel
theorem dL_law_27 : decode cL_law 27 = .ok (.aload_n 0, 1) := by decide +kernel
theorem dL_law_28 : decode cL_law 28 = .ok (.iload_n 3, 1) := by decide +kernel
theorem dL_law_29 : decode cL_law 29 = .ok (.iaload, 1) := by decide +kernel
theorem dL_law_30 : decode cL_law 30 = .ok (.bipush 63, 2) := by decide +kernel
theorem dL_law_32 : decode cL_law 32 = .ok (.iand, 1) := by decide +kernel
theorem dL_law_1220 : decode cL_law 1220 = .ok (.iinc 3 6, 3) := by decide +kernel
theorem dL_law_1223 : decode cL_law 1223 = .ok (.goto (-1205), 3) := by decide +kernel
theorem dL_law_33 : decode cL_law 33 = .ok (.tableswitch 1187 0 35 #[159, 192, 205, 228, 251, 284, 347, 370, 383, 396, 409, 432, 465, 498, 541, 584, 627, 660, 693, 726, 769, 792, 825, 848, 871, 894, 927, 940, 963, 986, 1039, 1082, 1105, 1128, 1151, 1174], 159) := by decide +kernel
set_option maxHeartbeats 4000000 in
set_option maxRecDepth 100000 in
theorem law_case_0 {l : Launch} {G : jG} {b L : Nat} {xs : Nat → Int32} (hL : L ≤ 3072) {nh : Nat} {fh : Nat → Option va_E} {ck sk : Nat} {i c ph : Int} {aa : jAA} (i0 : 0 ≤ i) (i1 : i + 6 ≤ L) (hc : c ≤ 599) (c0 : 0 ≤ c) (hI : CI fh nh c ph aa) (hM : MI fh c aa) (hck : (ck : Int) ≤ 135 + 3 * c) (hsk : (sk : Int) ≤ 415506 + ph + 412 * c) (kk : ∀ (nh2 : Nat) (fh2 : Nat → Option va_E) (ck2 sk2 : Nat) (ph2 : Int) (aa2 : jAA), CI fh2 nh2 (c + 1) ph2 aa2 → MI fh2 (c + 1) aa2 → (ck2 : Int) ≤ 135 + 3 * (c + 1) → (sk2 : Int) ≤ 415506 + ph2 + 412 * (c + 1) → J l G ML_law room_1 (lE b L xs G) lQ (nh2, fh2) ck2 sk2 1220 [some (.retAddr 0), some (.ref 0), some (.ref 98), some (.int (zI i))] []) : J l G ML_law room_1 (lE b L xs G) lQ (nh, fh) ck sk 192 [some (.retAddr 0), some (.ref 0), some (.ref 98), some (.int (zI i))] [] := by
  refine J_aload_n dL_law_192 rfl rfl ?_
  refine J_sload_n dL_law_193 rfl rfl ?_
  refine J_iload_n dL_law_194 rfl rfl ?_
  refine Z_iconst (n := 1) dL_law_195 ?_
  refine Z_iadd (c := i + 1) dL_law_196 rfl ?_
  refine L_sldz (i := i + 1) dL_law_197 (by omega) (by omega) hL ?_
  refine J_sload_n dL_law_198 rfl rfl ?_
  refine J_iload_n dL_law_199 rfl rfl ?_
  refine Z_iconst (n := 2) dL_law_200 ?_
  refine Z_iadd (c := i + 2) dL_law_201 rfl ?_
  refine L_sldz (i := i + 2) dL_law_202 (by omega) (by omega) hL ?_
  obtain ⟨⟨fs1, ho1⟩, hp0, hp1⟩ := hI.obj
  obtain ⟨S, Po, hS, hJ, hQ⟩ := C_beans (l := l) (G := G) (sx_zr xs (i + 1)) (sx_zr xs (i + 2)) hc hI
  refine J_callV (st := []) dL_law_203 cv_L_13 hJ ho1 rfl rfl (Nat.le_of_ble_eq_true rfl) ⟨(Nat.le_of_ble_eq_true rfl), (Nat.le_of_ble_eq_true rfl)⟩ ⟨(by show ck + 0 ≤ 600000; omega), (by show sk + S ≤ 7302250; omega)⟩ (fun r1 h1 q1 => ?_)
  obtain ⟨e1, ⟨ph2, hI2, hy⟩, hf2⟩ := hQ r1 h1 q1
  subst e1
  obtain ⟨nh2, fh2⟩ := h1
  refine J_nf (nh2 := nh2) (ck2 := ck + 0) (sk2 := sk + S) (st2 := [.int (zI (bnR (sx xs (i + 1)) (sx xs (i + 2)) aa.1))]) rfl rfl rfl rfl ?_
  have hM2 : MI fh2 c aa := hM.frame hf2
  refine J_pop dL_law_206 rfl ?_
  refine J_aload_n dL_law_207 rfl rfl ?_
  refine J_sload_n dL_law_208 rfl rfl ?_
  refine J_iload_n dL_law_209 rfl rfl ?_
  refine Z_iconst (n := 1) dL_law_210 ?_
  refine Z_iadd (c := i + 1) dL_law_211 rfl ?_
  refine L_sldz (i := i + 1) dL_law_212 (by omega) (by omega) hL ?_
  refine J_sload_n dL_law_213 rfl rfl ?_
  refine J_iload_n dL_law_214 rfl rfl ?_
  refine Z_iconst (n := 2) dL_law_215 ?_
  refine Z_iadd (c := i + 2) dL_law_216 rfl ?_
  refine L_sldz (i := i + 2) dL_law_217 (by omega) (by omega) hL ?_
  obtain ⟨fs2, ho2⟩ := hM2.obj
  obtain ⟨Pm, hJ2, hQ2⟩ := M_beans (l := l) (G := G) (nh := nh2) (sx_zr xs (i + 1)) (sx_zr xs (i + 2)) hc hM2
  refine J_callV (st := []) dL_law_218 cv_L_17 hJ2 ho2 rfl rfl (Nat.le_of_ble_eq_true rfl) ⟨(Nat.le_of_ble_eq_true rfl), (Nat.le_of_ble_eq_true rfl)⟩ ⟨(by show ck + 0 + 0 ≤ 600000; omega), (by show sk + S + 0 ≤ 7302250; omega)⟩ (fun r2 h2 q2 => ?_)
  obtain ⟨e2, hn2, hM3, hf3⟩ := hQ2 r2 h2 q2
  subst e2
  obtain ⟨nh3, fh3⟩ := h2
  have hn3 : nh3 = nh2 := hn2
  subst hn3
  refine J_nf (nh2 := nh3) (ck2 := ck + 0) (sk2 := sk + S) (st2 := [.int (zI (bnR (sx xs (i + 1)) (sx xs (i + 2)) aa.1))]) rfl rfl rfl rfl ?_
  have hI3 := hI2.frame hf3
  refine J_pop dL_law_221 rfl ?_
  refine J_goto (tgt := 1220) dL_law_222 (by decide) ?_
  exact kk _ _ _ _ _ _ hI3 hM3 (by omega) (by omega)
set_option maxHeartbeats 4000000 in
set_option maxRecDepth 100000 in
theorem law_case_1 {l : Launch} {G : jG} {b L : Nat} {xs : Nat → Int32} (hL : L ≤ 3072) {nh : Nat} {fh : Nat → Option va_E} {ck sk : Nat} {i c ph : Int} {aa : jAA} (i0 : 0 ≤ i) (i1 : i + 6 ≤ L) (hc : c ≤ 599) (c0 : 0 ≤ c) (hI : CI fh nh c ph aa) (hM : MI fh c aa) (hck : (ck : Int) ≤ 135 + 3 * c) (hsk : (sk : Int) ≤ 415506 + ph + 412 * c) (kk : ∀ (nh2 : Nat) (fh2 : Nat → Option va_E) (ck2 sk2 : Nat) (ph2 : Int) (aa2 : jAA), CI fh2 nh2 (c + 1) ph2 aa2 → MI fh2 (c + 1) aa2 → (ck2 : Int) ≤ 135 + 3 * (c + 1) → (sk2 : Int) ≤ 415506 + ph2 + 412 * (c + 1) → J l G ML_law room_1 (lE b L xs G) lQ (nh2, fh2) ck2 sk2 1220 [some (.retAddr 0), some (.ref 0), some (.ref 98), some (.int (zI i))] []) : J l G ML_law room_1 (lE b L xs G) lQ (nh, fh) ck sk 225 [some (.retAddr 0), some (.ref 0), some (.ref 98), some (.int (zI i))] [] := by
  refine J_aload_n dL_law_225 rfl rfl ?_
  obtain ⟨⟨fs1, ho1⟩, hp0, hp1⟩ := hI.obj
  obtain ⟨S, Po, hS, hJ, hQ⟩ := C_houses (l := l) (G := G)  hc hI
  refine J_callV (st := []) dL_law_226 cv_L_18 hJ ho1 rfl rfl (Nat.le_of_ble_eq_true rfl) ⟨(Nat.le_of_ble_eq_true rfl), (Nat.le_of_ble_eq_true rfl)⟩ ⟨(by show ck + 0 ≤ 600000; omega), (by show sk + S ≤ 7302250; omega)⟩ (fun r1 h1 q1 => ?_)
  obtain ⟨e1, ⟨ph2, hI2, hy⟩, hf2⟩ := hQ r1 h1 q1
  subst e1
  obtain ⟨nh2, fh2⟩ := h1
  refine J_nf (nh2 := nh2) (ck2 := ck + 0) (sk2 := sk + S) (st2 := [.int (zI (Hi aa.1))]) rfl rfl rfl rfl ?_
  have hM2 : MI fh2 c aa := hM.frame hf2
  refine J_pop dL_law_229 rfl ?_
  refine J_aload_n dL_law_230 rfl rfl ?_
  obtain ⟨fs2, ho2⟩ := hM2.obj
  obtain ⟨Pm, hJ2, hQ2⟩ := M_houses (l := l) (G := G) (nh := nh2)  hc hM2
  refine J_callV (st := []) dL_law_231 cv_L_22 hJ2 ho2 rfl rfl (Nat.le_of_ble_eq_true rfl) ⟨(Nat.le_of_ble_eq_true rfl), (Nat.le_of_ble_eq_true rfl)⟩ ⟨(by show ck + 0 + 0 ≤ 600000; omega), (by show sk + S + 0 ≤ 7302250; omega)⟩ (fun r2 h2 q2 => ?_)
  obtain ⟨e2, hn2, hM3, hf3⟩ := hQ2 r2 h2 q2
  subst e2
  obtain ⟨nh3, fh3⟩ := h2
  have hn3 : nh3 = nh2 := hn2
  subst hn3
  refine J_nf (nh2 := nh3) (ck2 := ck + 0) (sk2 := sk + S) (st2 := [.int (zI (Hi aa.1))]) rfl rfl rfl rfl ?_
  have hI3 := hI2.frame hf3
  refine J_pop dL_law_234 rfl ?_
  refine J_goto (tgt := 1220) dL_law_235 (by decide) ?_
  exact kk _ _ _ _ _ _ hI3 hM3 (by omega) (by omega)
set_option maxHeartbeats 4000000 in
set_option maxRecDepth 100000 in
theorem law_case_2 {l : Launch} {G : jG} {b L : Nat} {xs : Nat → Int32} (hL : L ≤ 3072) {nh : Nat} {fh : Nat → Option va_E} {ck sk : Nat} {i c ph : Int} {aa : jAA} (i0 : 0 ≤ i) (i1 : i + 6 ≤ L) (hc : c ≤ 599) (c0 : 0 ≤ c) (hI : CI fh nh c ph aa) (hM : MI fh c aa) (hck : (ck : Int) ≤ 135 + 3 * c) (hsk : (sk : Int) ≤ 415506 + ph + 412 * c) (kk : ∀ (nh2 : Nat) (fh2 : Nat → Option va_E) (ck2 sk2 : Nat) (ph2 : Int) (aa2 : jAA), CI fh2 nh2 (c + 1) ph2 aa2 → MI fh2 (c + 1) aa2 → (ck2 : Int) ≤ 135 + 3 * (c + 1) → (sk2 : Int) ≤ 415506 + ph2 + 412 * (c + 1) → J l G ML_law room_1 (lE b L xs G) lQ (nh2, fh2) ck2 sk2 1220 [some (.retAddr 0), some (.ref 0), some (.ref 98), some (.int (zI i))] []) : J l G ML_law room_1 (lE b L xs G) lQ (nh, fh) ck sk 238 [some (.retAddr 0), some (.ref 0), some (.ref 98), some (.int (zI i))] [] := by
  refine J_aload_n dL_law_238 rfl rfl ?_
  refine J_sload_n dL_law_239 rfl rfl ?_
  refine J_iload_n dL_law_240 rfl rfl ?_
  refine Z_iconst (n := 1) dL_law_241 ?_
  refine Z_iadd (c := i + 1) dL_law_242 rfl ?_
  refine L_sldz (i := i + 1) dL_law_243 (by omega) (by omega) hL ?_
  obtain ⟨⟨fs1, ho1⟩, hp0, hp1⟩ := hI.obj
  obtain ⟨S, Po, hS, hJ, hQ⟩ := C_code (l := l) (G := G) (sx_zr xs (i + 1)) hc hI
  refine J_callV (st := []) dL_law_244 cv_L_23 hJ ho1 rfl rfl (Nat.le_of_ble_eq_true rfl) ⟨(Nat.le_of_ble_eq_true rfl), (Nat.le_of_ble_eq_true rfl)⟩ ⟨(by show ck + 0 ≤ 600000; omega), (by show sk + S ≤ 7302250; omega)⟩ (fun r1 h1 q1 => ?_)
  obtain ⟨e1, ⟨ph2, hI2, hy⟩, hf2⟩ := hQ r1 h1 q1
  subst e1
  obtain ⟨nh2, fh2⟩ := h1
  refine J_nf (nh2 := nh2) (ck2 := ck + 0) (sk2 := sk + S) (st2 := [.int (zI (cdR (sx xs (i + 1)) aa.1))]) rfl rfl rfl rfl ?_
  have hM2 : MI fh2 c aa := hM.frame hf2
  refine J_pop dL_law_247 rfl ?_
  refine J_aload_n dL_law_248 rfl rfl ?_
  refine J_sload_n dL_law_249 rfl rfl ?_
  refine J_iload_n dL_law_250 rfl rfl ?_
  refine Z_iconst (n := 1) dL_law_251 ?_
  refine Z_iadd (c := i + 1) dL_law_252 rfl ?_
  refine L_sldz (i := i + 1) dL_law_253 (by omega) (by omega) hL ?_
  obtain ⟨fs2, ho2⟩ := hM2.obj
  obtain ⟨Pm, hJ2, hQ2⟩ := M_code (l := l) (G := G) (nh := nh2) (sx_zr xs (i + 1)) hc hM2
  refine J_callV (st := []) dL_law_254 cv_L_27 hJ2 ho2 rfl rfl (Nat.le_of_ble_eq_true rfl) ⟨(Nat.le_of_ble_eq_true rfl), (Nat.le_of_ble_eq_true rfl)⟩ ⟨(by show ck + 0 + 0 ≤ 600000; omega), (by show sk + S + 0 ≤ 7302250; omega)⟩ (fun r2 h2 q2 => ?_)
  obtain ⟨e2, hn2, hM3, hf3⟩ := hQ2 r2 h2 q2
  subst e2
  obtain ⟨nh3, fh3⟩ := h2
  have hn3 : nh3 = nh2 := hn2
  subst hn3
  refine J_nf (nh2 := nh3) (ck2 := ck + 0) (sk2 := sk + S) (st2 := [.int (zI (cdR (sx xs (i + 1)) aa.1))]) rfl rfl rfl rfl ?_
  have hI3 := hI2.frame hf3
  refine J_pop dL_law_257 rfl ?_
  refine J_goto (tgt := 1220) dL_law_258 (by decide) ?_
  exact kk _ _ _ _ _ _ hI3 hM3 (by omega) (by omega)
set_option maxHeartbeats 4000000 in
set_option maxRecDepth 100000 in
theorem law_case_3 {l : Launch} {G : jG} {b L : Nat} {xs : Nat → Int32} (hL : L ≤ 3072) {nh : Nat} {fh : Nat → Option va_E} {ck sk : Nat} {i c ph : Int} {aa : jAA} (i0 : 0 ≤ i) (i1 : i + 6 ≤ L) (hc : c ≤ 599) (c0 : 0 ≤ c) (hI : CI fh nh c ph aa) (hM : MI fh c aa) (hck : (ck : Int) ≤ 135 + 3 * c) (hsk : (sk : Int) ≤ 415506 + ph + 412 * c) (kk : ∀ (nh2 : Nat) (fh2 : Nat → Option va_E) (ck2 sk2 : Nat) (ph2 : Int) (aa2 : jAA), CI fh2 nh2 (c + 1) ph2 aa2 → MI fh2 (c + 1) aa2 → (ck2 : Int) ≤ 135 + 3 * (c + 1) → (sk2 : Int) ≤ 415506 + ph2 + 412 * (c + 1) → J l G ML_law room_1 (lE b L xs G) lQ (nh2, fh2) ck2 sk2 1220 [some (.retAddr 0), some (.ref 0), some (.ref 98), some (.int (zI i))] []) : J l G ML_law room_1 (lE b L xs G) lQ (nh, fh) ck sk 261 [some (.retAddr 0), some (.ref 0), some (.ref 98), some (.int (zI i))] [] := by
  refine J_aload_n dL_law_261 rfl rfl ?_
  refine J_sload_n dL_law_262 rfl rfl ?_
  refine J_iload_n dL_law_263 rfl rfl ?_
  refine Z_iconst (n := 1) dL_law_264 ?_
  refine Z_iadd (c := i + 1) dL_law_265 rfl ?_
  refine L_sldz (i := i + 1) dL_law_266 (by omega) (by omega) hL ?_
  obtain ⟨⟨fs1, ho1⟩, hp0, hp1⟩ := hI.obj
  obtain ⟨S, Po, hS, hJ, hQ⟩ := C_house (l := l) (G := G) (sx_zr xs (i + 1)) hc hI
  refine J_callV (st := []) dL_law_267 cv_L_28 hJ ho1 rfl rfl (Nat.le_of_ble_eq_true rfl) ⟨(Nat.le_of_ble_eq_true rfl), (Nat.le_of_ble_eq_true rfl)⟩ ⟨(by show ck + 0 ≤ 600000; omega), (by show sk + S ≤ 7302250; omega)⟩ (fun r1 h1 q1 => ?_)
  obtain ⟨e1, ⟨ph2, hI2, hy⟩, hf2⟩ := hQ r1 h1 q1
  subst e1
  obtain ⟨nh2, fh2⟩ := h1
  refine J_nf (nh2 := nh2) (ck2 := ck + 0) (sk2 := sk + S) (st2 := [.int (zI (hcR (sx xs (i + 1)) aa.1))]) rfl rfl rfl rfl ?_
  have hM2 : MI fh2 c aa := hM.frame hf2
  refine J_pop dL_law_270 rfl ?_
  refine J_aload_n dL_law_271 rfl rfl ?_
  refine J_sload_n dL_law_272 rfl rfl ?_
  refine J_iload_n dL_law_273 rfl rfl ?_
  refine Z_iconst (n := 1) dL_law_274 ?_
  refine Z_iadd (c := i + 1) dL_law_275 rfl ?_
  refine L_sldz (i := i + 1) dL_law_276 (by omega) (by omega) hL ?_
  obtain ⟨fs2, ho2⟩ := hM2.obj
  obtain ⟨Pm, hJ2, hQ2⟩ := M_house (l := l) (G := G) (nh := nh2) (sx_zr xs (i + 1)) hc hM2
  refine J_callV (st := []) dL_law_277 cv_L_31 hJ2 ho2 rfl rfl (Nat.le_of_ble_eq_true rfl) ⟨(Nat.le_of_ble_eq_true rfl), (Nat.le_of_ble_eq_true rfl)⟩ ⟨(by show ck + 0 + 0 ≤ 600000; omega), (by show sk + S + 0 ≤ 7302250; omega)⟩ (fun r2 h2 q2 => ?_)
  obtain ⟨e2, hn2, hM3, hf3⟩ := hQ2 r2 h2 q2
  subst e2
  obtain ⟨nh3, fh3⟩ := h2
  have hn3 : nh3 = nh2 := hn2
  subst hn3
  refine J_nf (nh2 := nh3) (ck2 := ck + 0) (sk2 := sk + S) (st2 := [.int (zI (hcR (sx xs (i + 1)) aa.1))]) rfl rfl rfl rfl ?_
  have hI3 := hI2.frame hf3
  refine J_pop dL_law_280 rfl ?_
  refine J_goto (tgt := 1220) dL_law_281 (by decide) ?_
  exact kk _ _ _ _ _ _ hI3 hM3 (by omega) (by omega)
set_option maxHeartbeats 4000000 in
set_option maxRecDepth 100000 in
theorem law_case_4 {l : Launch} {G : jG} {b L : Nat} {xs : Nat → Int32} (hL : L ≤ 3072) {nh : Nat} {fh : Nat → Option va_E} {ck sk : Nat} {i c ph : Int} {aa : jAA} (i0 : 0 ≤ i) (i1 : i + 6 ≤ L) (hc : c ≤ 599) (c0 : 0 ≤ c) (hI : CI fh nh c ph aa) (hM : MI fh c aa) (hck : (ck : Int) ≤ 135 + 3 * c) (hsk : (sk : Int) ≤ 415506 + ph + 412 * c) (kk : ∀ (nh2 : Nat) (fh2 : Nat → Option va_E) (ck2 sk2 : Nat) (ph2 : Int) (aa2 : jAA), CI fh2 nh2 (c + 1) ph2 aa2 → MI fh2 (c + 1) aa2 → (ck2 : Int) ≤ 135 + 3 * (c + 1) → (sk2 : Int) ≤ 415506 + ph2 + 412 * (c + 1) → J l G ML_law room_1 (lE b L xs G) lQ (nh2, fh2) ck2 sk2 1220 [some (.retAddr 0), some (.ref 0), some (.ref 98), some (.int (zI i))] []) : J l G ML_law room_1 (lE b L xs G) lQ (nh, fh) ck sk 284 [some (.retAddr 0), some (.ref 0), some (.ref 98), some (.int (zI i))] [] := by
  refine J_aload_n dL_law_284 rfl rfl ?_
  refine J_sload_n dL_law_285 rfl rfl ?_
  refine J_iload_n dL_law_286 rfl rfl ?_
  refine Z_iconst (n := 1) dL_law_287 ?_
  refine Z_iadd (c := i + 1) dL_law_288 rfl ?_
  refine L_sldz (i := i + 1) dL_law_289 (by omega) (by omega) hL ?_
  refine J_sload_n dL_law_290 rfl rfl ?_
  refine J_iload_n dL_law_291 rfl rfl ?_
  refine Z_iconst (n := 2) dL_law_292 ?_
  refine Z_iadd (c := i + 2) dL_law_293 rfl ?_
  refine L_sldz (i := i + 2) dL_law_294 (by omega) (by omega) hL ?_
  obtain ⟨⟨fs1, ho1⟩, hp0, hp1⟩ := hI.obj
  obtain ⟨S, Po, hS, hJ, hQ⟩ := C_terms (l := l) (G := G) (sx_zr xs (i + 1)) (sx_zr xs (i + 2)) hc hI
  refine J_callV (st := []) dL_law_295 cv_L_32 hJ ho1 rfl rfl (Nat.le_of_ble_eq_true rfl) ⟨(Nat.le_of_ble_eq_true rfl), (Nat.le_of_ble_eq_true rfl)⟩ ⟨(by show ck + 0 ≤ 600000; omega), (by show sk + S ≤ 7302250; omega)⟩ (fun r1 h1 q1 => ?_)
  obtain ⟨e1, ⟨ph2, hI2, hy⟩, hf2⟩ := hQ r1 h1 q1
  subst e1
  obtain ⟨nh2, fh2⟩ := h1
  refine J_nf (nh2 := nh2) (ck2 := ck + 0) (sk2 := sk + S) (st2 := [.int (zI (tmR (sx xs (i + 1)) (sx xs (i + 2)) aa.1))]) rfl rfl rfl rfl ?_
  have hM2 : MI fh2 c aa := hM.frame hf2
  refine J_pop dL_law_298 rfl ?_
  refine J_aload_n dL_law_299 rfl rfl ?_
  refine J_sload_n dL_law_300 rfl rfl ?_
  refine J_iload_n dL_law_301 rfl rfl ?_
  refine Z_iconst (n := 1) dL_law_302 ?_
  refine Z_iadd (c := i + 1) dL_law_303 rfl ?_
  refine L_sldz (i := i + 1) dL_law_304 (by omega) (by omega) hL ?_
  refine J_sload_n dL_law_305 rfl rfl ?_
  refine J_iload_n dL_law_306 rfl rfl ?_
  refine Z_iconst (n := 2) dL_law_307 ?_
  refine Z_iadd (c := i + 2) dL_law_308 rfl ?_
  refine L_sldz (i := i + 2) dL_law_309 (by omega) (by omega) hL ?_
  obtain ⟨fs2, ho2⟩ := hM2.obj
  obtain ⟨Pm, hJ2, hQ2⟩ := M_terms (l := l) (G := G) (nh := nh2) (sx_zr xs (i + 1)) (sx_zr xs (i + 2)) hc hM2
  refine J_callV (st := []) dL_law_310 cv_L_35 hJ2 ho2 rfl rfl (Nat.le_of_ble_eq_true rfl) ⟨(Nat.le_of_ble_eq_true rfl), (Nat.le_of_ble_eq_true rfl)⟩ ⟨(by show ck + 0 + 0 ≤ 600000; omega), (by show sk + S + 0 ≤ 7302250; omega)⟩ (fun r2 h2 q2 => ?_)
  obtain ⟨e2, hn2, hM3, hf3⟩ := hQ2 r2 h2 q2
  subst e2
  obtain ⟨nh3, fh3⟩ := h2
  have hn3 : nh3 = nh2 := hn2
  subst hn3
  refine J_nf (nh2 := nh3) (ck2 := ck + 0) (sk2 := sk + S) (st2 := [.int (zI (tmR (sx xs (i + 1)) (sx xs (i + 2)) aa.1))]) rfl rfl rfl rfl ?_
  have hI3 := hI2.frame hf3
  refine J_pop dL_law_313 rfl ?_
  refine J_goto (tgt := 1220) dL_law_314 (by decide) ?_
  exact kk _ _ _ _ _ _ hI3 hM3 (by omega) (by omega)
set_option maxHeartbeats 4000000 in
set_option maxRecDepth 100000 in
theorem law_case_5 {l : Launch} {G : jG} {b L : Nat} {xs : Nat → Int32} (hL : L ≤ 3072) {nh : Nat} {fh : Nat → Option va_E} {ck sk : Nat} {i c ph : Int} {aa : jAA} (i0 : 0 ≤ i) (i1 : i + 6 ≤ L) (hc : c ≤ 599) (c0 : 0 ≤ c) (hI : CI fh nh c ph aa) (hM : MI fh c aa) (hck : (ck : Int) ≤ 135 + 3 * c) (hsk : (sk : Int) ≤ 415506 + ph + 412 * c) (kk : ∀ (nh2 : Nat) (fh2 : Nat → Option va_E) (ck2 sk2 : Nat) (ph2 : Int) (aa2 : jAA), CI fh2 nh2 (c + 1) ph2 aa2 → MI fh2 (c + 1) aa2 → (ck2 : Int) ≤ 135 + 3 * (c + 1) → (sk2 : Int) ≤ 415506 + ph2 + 412 * (c + 1) → J l G ML_law room_1 (lE b L xs G) lQ (nh2, fh2) ck2 sk2 1220 [some (.retAddr 0), some (.ref 0), some (.ref 98), some (.int (zI i))] []) : J l G ML_law room_1 (lE b L xs G) lQ (nh, fh) ck sk 317 [some (.retAddr 0), some (.ref 0), some (.ref 98), some (.int (zI i))] [] := by
  refine J_aload_n dL_law_317 rfl rfl ?_
  refine J_sload_n dL_law_318 rfl rfl ?_
  refine J_iload_n dL_law_319 rfl rfl ?_
  refine Z_iconst (n := 1) dL_law_320 ?_
  refine Z_iadd (c := i + 1) dL_law_321 rfl ?_
  refine L_sldz (i := i + 1) dL_law_322 (by omega) (by omega) hL ?_
  refine J_sload_n dL_law_323 rfl rfl ?_
  refine J_iload_n dL_law_324 rfl rfl ?_
  refine Z_iconst (n := 2) dL_law_325 ?_
  refine Z_iadd (c := i + 2) dL_law_326 rfl ?_
  refine L_sldz (i := i + 2) dL_law_327 (by omega) (by omega) hL ?_
  refine J_sload_n dL_law_328 rfl rfl ?_
  refine J_iload_n dL_law_329 rfl rfl ?_
  refine Z_iconst (n := 3) dL_law_330 ?_
  refine Z_iadd (c := i + 3) dL_law_331 rfl ?_
  refine L_sldz (i := i + 3) dL_law_332 (by omega) (by omega) hL ?_
  refine J_sload_n dL_law_333 rfl rfl ?_
  refine J_iload_n dL_law_334 rfl rfl ?_
  refine Z_iconst (n := 4) dL_law_335 ?_
  refine Z_iadd (c := i + 4) dL_law_336 rfl ?_
  refine L_sldz (i := i + 4) dL_law_337 (by omega) (by omega) hL ?_
  refine J_sload_n dL_law_338 rfl rfl ?_
  refine J_iload_n dL_law_339 rfl rfl ?_
  refine Z_iconst (n := 5) dL_law_340 ?_
  refine Z_iadd (c := i + 5) dL_law_341 rfl ?_
  refine L_sldz (i := i + 5) dL_law_342 (by omega) (by omega) hL ?_
  obtain ⟨⟨fs1, ho1⟩, hp0, hp1⟩ := hI.obj
  obtain ⟨S, Po, hS, hJ, hQ⟩ := C_feed (l := l) (G := G) (sx_zr xs (i + 1)) (sx_zr xs (i + 2)) (sx_zr xs (i + 3)) (sx_zr xs (i + 4)) (sx_zr xs (i + 5)) hc hI
  refine J_callV (st := []) dL_law_343 cv_L_36 hJ ho1 rfl rfl (Nat.le_of_ble_eq_true rfl) ⟨(Nat.le_of_ble_eq_true rfl), (Nat.le_of_ble_eq_true rfl)⟩ ⟨(by show ck + 0 ≤ 600000; omega), (by show sk + S ≤ 7302250; omega)⟩ (fun r1 h1 q1 => ?_)
  obtain ⟨e1, ⟨ph2, hI2, hy⟩, hf2⟩ := hQ r1 h1 q1
  subst e1
  obtain ⟨nh2, fh2⟩ := h1
  refine J_nf (nh2 := nh2) (ck2 := ck + 0) (sk2 := sk + S) (st2 := [.int (zI (fdR aa.2.2.2.2))]) rfl rfl rfl rfl ?_
  have hM2 : MI fh2 c aa := hM.frame hf2
  refine J_pop dL_law_346 rfl ?_
  refine J_aload_n dL_law_347 rfl rfl ?_
  refine J_sload_n dL_law_348 rfl rfl ?_
  refine J_iload_n dL_law_349 rfl rfl ?_
  refine Z_iconst (n := 1) dL_law_350 ?_
  refine Z_iadd (c := i + 1) dL_law_351 rfl ?_
  refine L_sldz (i := i + 1) dL_law_352 (by omega) (by omega) hL ?_
  refine J_sload_n dL_law_353 rfl rfl ?_
  refine J_iload_n dL_law_354 rfl rfl ?_
  refine Z_iconst (n := 2) dL_law_355 ?_
  refine Z_iadd (c := i + 2) dL_law_356 rfl ?_
  refine L_sldz (i := i + 2) dL_law_357 (by omega) (by omega) hL ?_
  refine J_sload_n dL_law_358 rfl rfl ?_
  refine J_iload_n dL_law_359 rfl rfl ?_
  refine Z_iconst (n := 3) dL_law_360 ?_
  refine Z_iadd (c := i + 3) dL_law_361 rfl ?_
  refine L_sldz (i := i + 3) dL_law_362 (by omega) (by omega) hL ?_
  refine J_sload_n dL_law_363 rfl rfl ?_
  refine J_iload_n dL_law_364 rfl rfl ?_
  refine Z_iconst (n := 4) dL_law_365 ?_
  refine Z_iadd (c := i + 4) dL_law_366 rfl ?_
  refine L_sldz (i := i + 4) dL_law_367 (by omega) (by omega) hL ?_
  refine J_sload_n dL_law_368 rfl rfl ?_
  refine J_iload_n dL_law_369 rfl rfl ?_
  refine Z_iconst (n := 5) dL_law_370 ?_
  refine Z_iadd (c := i + 5) dL_law_371 rfl ?_
  refine L_sldz (i := i + 5) dL_law_372 (by omega) (by omega) hL ?_
  obtain ⟨fs2, ho2⟩ := hM2.obj
  obtain ⟨Pm, hJ2, hQ2⟩ := M_feed (l := l) (G := G) (nh := nh2) (sx_zr xs (i + 1)) (sx_zr xs (i + 2)) (sx_zr xs (i + 3)) (sx_zr xs (i + 4)) (sx_zr xs (i + 5)) hc hM2
  refine J_callV (st := []) dL_law_373 cv_L_40 hJ2 ho2 rfl rfl (Nat.le_of_ble_eq_true rfl) ⟨(Nat.le_of_ble_eq_true rfl), (Nat.le_of_ble_eq_true rfl)⟩ ⟨(by show ck + 0 + 0 ≤ 600000; omega), (by show sk + S + 0 ≤ 7302250; omega)⟩ (fun r2 h2 q2 => ?_)
  obtain ⟨e2, hn2, hM3, hf3⟩ := hQ2 r2 h2 q2
  subst e2
  obtain ⟨nh3, fh3⟩ := h2
  have hn3 : nh3 = nh2 := hn2
  subst hn3
  refine J_nf (nh2 := nh3) (ck2 := ck + 0) (sk2 := sk + S) (st2 := [.int (zI (fdR aa.2.2.2.2))]) rfl rfl rfl rfl ?_
  have hI3 := hI2.frame hf3
  refine J_pop dL_law_376 rfl ?_
  refine J_goto (tgt := 1220) dL_law_377 (by decide) ?_
  exact kk _ _ _ _ _ _ hI3 hM3 (by omega) (by omega)
set_option maxHeartbeats 4000000 in
set_option maxRecDepth 100000 in
theorem law_case_6 {l : Launch} {G : jG} {b L : Nat} {xs : Nat → Int32} (hL : L ≤ 3072) {nh : Nat} {fh : Nat → Option va_E} {ck sk : Nat} {i c ph : Int} {aa : jAA} (i0 : 0 ≤ i) (i1 : i + 6 ≤ L) (hc : c ≤ 599) (c0 : 0 ≤ c) (hI : CI fh nh c ph aa) (hM : MI fh c aa) (hck : (ck : Int) ≤ 135 + 3 * c) (hsk : (sk : Int) ≤ 415506 + ph + 412 * c) (kk : ∀ (nh2 : Nat) (fh2 : Nat → Option va_E) (ck2 sk2 : Nat) (ph2 : Int) (aa2 : jAA), CI fh2 nh2 (c + 1) ph2 aa2 → MI fh2 (c + 1) aa2 → (ck2 : Int) ≤ 135 + 3 * (c + 1) → (sk2 : Int) ≤ 415506 + ph2 + 412 * (c + 1) → J l G ML_law room_1 (lE b L xs G) lQ (nh2, fh2) ck2 sk2 1220 [some (.retAddr 0), some (.ref 0), some (.ref 98), some (.int (zI i))] []) : J l G ML_law room_1 (lE b L xs G) lQ (nh, fh) ck sk 380 [some (.retAddr 0), some (.ref 0), some (.ref 98), some (.int (zI i))] [] := by
  refine J_aload_n dL_law_380 rfl rfl ?_
  refine J_sload_n dL_law_381 rfl rfl ?_
  refine J_iload_n dL_law_382 rfl rfl ?_
  refine Z_iconst (n := 1) dL_law_383 ?_
  refine Z_iadd (c := i + 1) dL_law_384 rfl ?_
  refine L_sldz (i := i + 1) dL_law_385 (by omega) (by omega) hL ?_
  obtain ⟨⟨fs1, ho1⟩, hp0, hp1⟩ := hI.obj
  obtain ⟨S, Po, hS, hJ, hQ⟩ := C_end (l := l) (G := G) (sx_zr xs (i + 1)) hc hI
  refine J_callV (st := []) dL_law_386 cv_L_41 hJ ho1 rfl rfl (Nat.le_of_ble_eq_true rfl) ⟨(Nat.le_of_ble_eq_true rfl), (Nat.le_of_ble_eq_true rfl)⟩ ⟨(by show ck + 0 ≤ 600000; omega), (by show sk + S ≤ 7302250; omega)⟩ (fun r1 h1 q1 => ?_)
  obtain ⟨e1, ⟨ph2, hI2, hy⟩, hf2⟩ := hQ r1 h1 q1
  subst e1
  obtain ⟨nh2, fh2⟩ := h1
  refine J_nf (nh2 := nh2) (ck2 := ck + 0) (sk2 := sk + S) (st2 := [.int (zI (enR (sx xs (i + 1)) aa.2.2.2.2))]) rfl rfl rfl rfl ?_
  have hM2 : MI fh2 c aa := hM.frame hf2
  refine J_pop dL_law_389 rfl ?_
  refine J_aload_n dL_law_390 rfl rfl ?_
  refine J_sload_n dL_law_391 rfl rfl ?_
  refine J_iload_n dL_law_392 rfl rfl ?_
  refine Z_iconst (n := 1) dL_law_393 ?_
  refine Z_iadd (c := i + 1) dL_law_394 rfl ?_
  refine L_sldz (i := i + 1) dL_law_395 (by omega) (by omega) hL ?_
  obtain ⟨fs2, ho2⟩ := hM2.obj
  obtain ⟨Pm, hJ2, hQ2⟩ := M_end (l := l) (G := G) (nh := nh2) (sx_zr xs (i + 1)) hc hM2
  refine J_callV (st := []) dL_law_396 cv_L_44 hJ2 ho2 rfl rfl (Nat.le_of_ble_eq_true rfl) ⟨(Nat.le_of_ble_eq_true rfl), (Nat.le_of_ble_eq_true rfl)⟩ ⟨(by show ck + 0 + 0 ≤ 600000; omega), (by show sk + S + 0 ≤ 7302250; omega)⟩ (fun r2 h2 q2 => ?_)
  obtain ⟨e2, hn2, hM3, hf3⟩ := hQ2 r2 h2 q2
  subst e2
  obtain ⟨nh3, fh3⟩ := h2
  have hn3 : nh3 = nh2 := hn2
  subst hn3
  refine J_nf (nh2 := nh3) (ck2 := ck + 0) (sk2 := sk + S) (st2 := [.int (zI (enR (sx xs (i + 1)) aa.2.2.2.2))]) rfl rfl rfl rfl ?_
  have hI3 := hI2.frame hf3
  refine J_pop dL_law_399 rfl ?_
  refine J_goto (tgt := 1220) dL_law_400 (by decide) ?_
  exact kk _ _ _ _ _ _ hI3 hM3 (by omega) (by omega)
set_option maxHeartbeats 4000000 in
set_option maxRecDepth 100000 in
theorem law_case_7 {l : Launch} {G : jG} {b L : Nat} {xs : Nat → Int32} (hL : L ≤ 3072) {nh : Nat} {fh : Nat → Option va_E} {ck sk : Nat} {i c ph : Int} {aa : jAA} (i0 : 0 ≤ i) (i1 : i + 6 ≤ L) (hc : c ≤ 599) (c0 : 0 ≤ c) (hI : CI fh nh c ph aa) (hM : MI fh c aa) (hck : (ck : Int) ≤ 135 + 3 * c) (hsk : (sk : Int) ≤ 415506 + ph + 412 * c) (kk : ∀ (nh2 : Nat) (fh2 : Nat → Option va_E) (ck2 sk2 : Nat) (ph2 : Int) (aa2 : jAA), CI fh2 nh2 (c + 1) ph2 aa2 → MI fh2 (c + 1) aa2 → (ck2 : Int) ≤ 135 + 3 * (c + 1) → (sk2 : Int) ≤ 415506 + ph2 + 412 * (c + 1) → J l G ML_law room_1 (lE b L xs G) lQ (nh2, fh2) ck2 sk2 1220 [some (.retAddr 0), some (.ref 0), some (.ref 98), some (.int (zI i))] []) : J l G ML_law room_1 (lE b L xs G) lQ (nh, fh) ck sk 403 [some (.retAddr 0), some (.ref 0), some (.ref 98), some (.int (zI i))] [] := by
  refine J_aload_n dL_law_403 rfl rfl ?_
  obtain ⟨⟨fs1, ho1⟩, hp0, hp1⟩ := hI.obj
  obtain ⟨S, Po, hS, hJ, hQ⟩ := C_row (l := l) (G := G)  hc hI
  refine J_callV (st := []) dL_law_404 cv_L_45 hJ ho1 rfl rfl (Nat.le_of_ble_eq_true rfl) ⟨(Nat.le_of_ble_eq_true rfl), (Nat.le_of_ble_eq_true rfl)⟩ ⟨(by show ck + 0 ≤ 600000; omega), (by show sk + S ≤ 7302250; omega)⟩ (fun r1 h1 q1 => ?_)
  obtain ⟨e1, ⟨ph2, hI2, hy⟩, hf2⟩ := hQ r1 h1 q1
  subst e1
  obtain ⟨nh2, fh2⟩ := h1
  refine J_nf (nh2 := nh2) (ck2 := ck + 0) (sk2 := sk + S) (st2 := [.int (zI (rwR aa.2.2.2.1 (aa.2.2.2.2 2) aa.1))]) rfl rfl rfl rfl ?_
  have hM2 : MI fh2 c aa := hM.frame hf2
  refine J_aload_n dL_law_407 rfl rfl ?_
  obtain ⟨fs2, ho2⟩ := hM2.obj
  obtain ⟨Pm, hJ2, hQ2⟩ := M_row (l := l) (G := G) (nh := nh2)  hc hM2
  refine J_callV (st := [.int (zI (rwR aa.2.2.2.1 (aa.2.2.2.2 2) aa.1))]) dL_law_408 cv_L_48 hJ2 ho2 rfl rfl (Nat.le_of_ble_eq_true rfl) ⟨(Nat.le_of_ble_eq_true rfl), (Nat.le_of_ble_eq_true rfl)⟩ ⟨(by show ck + 0 + 0 ≤ 600000; omega), (by show sk + S + 0 ≤ 7302250; omega)⟩ (fun r2 h2 q2 => ?_)
  obtain ⟨e2, hn2, hM3, hf3⟩ := hQ2 r2 h2 q2
  subst e2
  obtain ⟨nh3, fh3⟩ := h2
  have hn3 : nh3 = nh2 := hn2
  subst hn3
  refine J_nf (nh2 := nh3) (ck2 := ck + 0) (sk2 := sk + S) (st2 := [.int (zI (rwR aa.2.2.2.1 (aa.2.2.2.2 2) aa.1)), .int (zI (rwR aa.2.2.2.1 (aa.2.2.2.2 2) aa.1))]) rfl rfl rfl rfl ?_
  have hI3 := hI2.frame hf3
  refine Z_icmp_eq (tgt := 1220) dL_law_411 (by decide) (rwR_zr) (rwR_zr) (fun _ => ?_) (fun q => absurd rfl q)
  exact kk _ _ _ _ _ _ hI3 hM3 (by omega) (by omega)
set_option maxHeartbeats 4000000 in
set_option maxRecDepth 100000 in
theorem law_case_8 {l : Launch} {G : jG} {b L : Nat} {xs : Nat → Int32} (hL : L ≤ 3072) {nh : Nat} {fh : Nat → Option va_E} {ck sk : Nat} {i c ph : Int} {aa : jAA} (i0 : 0 ≤ i) (i1 : i + 6 ≤ L) (hc : c ≤ 599) (c0 : 0 ≤ c) (hI : CI fh nh c ph aa) (hM : MI fh c aa) (hck : (ck : Int) ≤ 135 + 3 * c) (hsk : (sk : Int) ≤ 415506 + ph + 412 * c) (kk : ∀ (nh2 : Nat) (fh2 : Nat → Option va_E) (ck2 sk2 : Nat) (ph2 : Int) (aa2 : jAA), CI fh2 nh2 (c + 1) ph2 aa2 → MI fh2 (c + 1) aa2 → (ck2 : Int) ≤ 135 + 3 * (c + 1) → (sk2 : Int) ≤ 415506 + ph2 + 412 * (c + 1) → J l G ML_law room_1 (lE b L xs G) lQ (nh2, fh2) ck2 sk2 1220 [some (.retAddr 0), some (.ref 0), some (.ref 98), some (.int (zI i))] []) : J l G ML_law room_1 (lE b L xs G) lQ (nh, fh) ck sk 416 [some (.retAddr 0), some (.ref 0), some (.ref 98), some (.int (zI i))] [] := by
  refine J_aload_n dL_law_416 rfl rfl ?_
  obtain ⟨⟨fs1, ho1⟩, hp0, hp1⟩ := hI.obj
  obtain ⟨S, Po, hS, hJ, hQ⟩ := C_law (l := l) (G := G)  hc hI
  refine J_callV (st := []) dL_law_417 cv_L_49 hJ ho1 rfl rfl (Nat.le_of_ble_eq_true rfl) ⟨(Nat.le_of_ble_eq_true rfl), (Nat.le_of_ble_eq_true rfl)⟩ ⟨(by show ck + 1 ≤ 600000; omega), (by show sk + S ≤ 7302250; omega)⟩ (fun r1 h1 q1 => ?_)
  obtain ⟨e1, ⟨ph2, hI2, hy⟩, hf2⟩ := hQ r1 h1 q1
  obtain ⟨z1, e1⟩ := e1
  subst e1
  obtain ⟨nh2, fh2⟩ := h1
  refine J_nf (nh2 := nh2) (ck2 := ck + 1) (sk2 := sk + S) (st2 := [.int (zI z1)]) rfl rfl rfl rfl ?_
  have hM2 : MI fh2 c aa := hM.frame hf2
  refine J_pop dL_law_420 rfl ?_
  refine J_aload_n dL_law_421 rfl rfl ?_
  obtain ⟨fs2, ho2⟩ := hM2.obj
  obtain ⟨Pm, hJ2, hQ2⟩ := M_law (l := l) (G := G) (nh := nh2)  hc hM2
  refine J_callV (st := []) dL_law_422 cv_L_52 hJ2 ho2 rfl rfl (Nat.le_of_ble_eq_true rfl) ⟨(Nat.le_of_ble_eq_true rfl), (Nat.le_of_ble_eq_true rfl)⟩ ⟨(by show ck + 1 + 0 ≤ 600000; omega), (by show sk + S + 0 ≤ 7302250; omega)⟩ (fun r2 h2 q2 => ?_)
  obtain ⟨e2, hn2, hM3, hf3⟩ := hQ2 r2 h2 q2
  obtain ⟨z2, e2⟩ := e2
  subst e2
  obtain ⟨nh3, fh3⟩ := h2
  have hn3 : nh3 = nh2 := hn2
  subst hn3
  refine J_nf (nh2 := nh3) (ck2 := ck + 1) (sk2 := sk + S) (st2 := [.int (zI z2)]) rfl rfl rfl rfl ?_
  have hI3 := hI2.frame hf3
  refine J_pop dL_law_425 rfl ?_
  refine J_goto (tgt := 1220) dL_law_426 (by decide) ?_
  exact kk _ _ _ _ _ _ hI3 hM3 (by omega) (by omega)
set_option maxHeartbeats 4000000 in
set_option maxRecDepth 100000 in
theorem law_case_9 {l : Launch} {G : jG} {b L : Nat} {xs : Nat → Int32} (hL : L ≤ 3072) {nh : Nat} {fh : Nat → Option va_E} {ck sk : Nat} {i c ph : Int} {aa : jAA} (i0 : 0 ≤ i) (i1 : i + 6 ≤ L) (hc : c ≤ 599) (c0 : 0 ≤ c) (hI : CI fh nh c ph aa) (hM : MI fh c aa) (hck : (ck : Int) ≤ 135 + 3 * c) (hsk : (sk : Int) ≤ 415506 + ph + 412 * c) (kk : ∀ (nh2 : Nat) (fh2 : Nat → Option va_E) (ck2 sk2 : Nat) (ph2 : Int) (aa2 : jAA), CI fh2 nh2 (c + 1) ph2 aa2 → MI fh2 (c + 1) aa2 → (ck2 : Int) ≤ 135 + 3 * (c + 1) → (sk2 : Int) ≤ 415506 + ph2 + 412 * (c + 1) → J l G ML_law room_1 (lE b L xs G) lQ (nh2, fh2) ck2 sk2 1220 [some (.retAddr 0), some (.ref 0), some (.ref 98), some (.int (zI i))] []) : J l G ML_law room_1 (lE b L xs G) lQ (nh, fh) ck sk 429 [some (.retAddr 0), some (.ref 0), some (.ref 98), some (.int (zI i))] [] := by
  refine J_aload_n dL_law_429 rfl rfl ?_
  obtain ⟨⟨fs1, ho1⟩, hp0, hp1⟩ := hI.obj
  obtain ⟨S, Po, hS, hJ, hQ⟩ := C_fault (l := l) (G := G)  hc hI
  refine J_callV (st := []) dL_law_430 cv_L_53 hJ ho1 rfl rfl (Nat.le_of_ble_eq_true rfl) ⟨(Nat.le_of_ble_eq_true rfl), (Nat.le_of_ble_eq_true rfl)⟩ ⟨(by show ck + 0 ≤ 600000; omega), (by show sk + S ≤ 7302250; omega)⟩ (fun r1 h1 q1 => ?_)
  obtain ⟨e1, ⟨ph2, hI2, hy⟩, hf2⟩ := hQ r1 h1 q1
  obtain ⟨z1, e1⟩ := e1
  subst e1
  obtain ⟨nh2, fh2⟩ := h1
  refine J_nf (nh2 := nh2) (ck2 := ck + 0) (sk2 := sk + S) (st2 := [.int (zI z1)]) rfl rfl rfl rfl ?_
  have hM2 : MI fh2 c aa := hM.frame hf2
  refine J_pop dL_law_433 rfl ?_
  refine J_aload_n dL_law_434 rfl rfl ?_
  obtain ⟨fs2, ho2⟩ := hM2.obj
  obtain ⟨Pm, hJ2, hQ2⟩ := M_fault (l := l) (G := G) (nh := nh2)  hc hM2
  refine J_callV (st := []) dL_law_435 cv_L_56 hJ2 ho2 rfl rfl (Nat.le_of_ble_eq_true rfl) ⟨(Nat.le_of_ble_eq_true rfl), (Nat.le_of_ble_eq_true rfl)⟩ ⟨(by show ck + 0 + 0 ≤ 600000; omega), (by show sk + S + 0 ≤ 7302250; omega)⟩ (fun r2 h2 q2 => ?_)
  obtain ⟨e2, hn2, hM3, hf3⟩ := hQ2 r2 h2 q2
  obtain ⟨z2, e2⟩ := e2
  subst e2
  obtain ⟨nh3, fh3⟩ := h2
  have hn3 : nh3 = nh2 := hn2
  subst hn3
  refine J_nf (nh2 := nh3) (ck2 := ck + 0) (sk2 := sk + S) (st2 := [.int (zI z2)]) rfl rfl rfl rfl ?_
  have hI3 := hI2.frame hf3
  refine J_pop dL_law_438 rfl ?_
  refine J_goto (tgt := 1220) dL_law_439 (by decide) ?_
  exact kk _ _ _ _ _ _ hI3 hM3 (by omega) (by omega)
set_option maxHeartbeats 4000000 in
set_option maxRecDepth 100000 in
theorem law_case_10 {l : Launch} {G : jG} {b L : Nat} {xs : Nat → Int32} (hL : L ≤ 3072) {nh : Nat} {fh : Nat → Option va_E} {ck sk : Nat} {i c ph : Int} {aa : jAA} (i0 : 0 ≤ i) (i1 : i + 6 ≤ L) (hc : c ≤ 599) (c0 : 0 ≤ c) (hI : CI fh nh c ph aa) (hM : MI fh c aa) (hck : (ck : Int) ≤ 135 + 3 * c) (hsk : (sk : Int) ≤ 415506 + ph + 412 * c) (kk : ∀ (nh2 : Nat) (fh2 : Nat → Option va_E) (ck2 sk2 : Nat) (ph2 : Int) (aa2 : jAA), CI fh2 nh2 (c + 1) ph2 aa2 → MI fh2 (c + 1) aa2 → (ck2 : Int) ≤ 135 + 3 * (c + 1) → (sk2 : Int) ≤ 415506 + ph2 + 412 * (c + 1) → J l G ML_law room_1 (lE b L xs G) lQ (nh2, fh2) ck2 sk2 1220 [some (.retAddr 0), some (.ref 0), some (.ref 98), some (.int (zI i))] []) : J l G ML_law room_1 (lE b L xs G) lQ (nh, fh) ck sk 442 [some (.retAddr 0), some (.ref 0), some (.ref 98), some (.int (zI i))] [] := by
  refine J_aload_n dL_law_442 rfl rfl ?_
  refine J_sload_n dL_law_443 rfl rfl ?_
  refine J_iload_n dL_law_444 rfl rfl ?_
  refine Z_iconst (n := 1) dL_law_445 ?_
  refine Z_iadd (c := i + 1) dL_law_446 rfl ?_
  refine L_sldz (i := i + 1) dL_law_447 (by omega) (by omega) hL ?_
  obtain ⟨⟨fs1, ho1⟩, hp0, hp1⟩ := hI.obj
  obtain ⟨S, Po, hS, hJ, hQ⟩ := C_force (l := l) (G := G) (sx_zr xs (i + 1)) hc hI
  refine J_callV (st := []) dL_law_448 cv_L_57 hJ ho1 rfl rfl (Nat.le_of_ble_eq_true rfl) ⟨(Nat.le_of_ble_eq_true rfl), (Nat.le_of_ble_eq_true rfl)⟩ ⟨(by show ck + 0 ≤ 600000; omega), (by show sk + S ≤ 7302250; omega)⟩ (fun r1 h1 q1 => ?_)
  obtain ⟨e1, ⟨ph2, hI2, hy⟩, hf2⟩ := hQ r1 h1 q1
  obtain ⟨z1, e1⟩ := e1
  subst e1
  obtain ⟨nh2, fh2⟩ := h1
  refine J_nf (nh2 := nh2) (ck2 := ck + 0) (sk2 := sk + S) (st2 := [.int (zI z1)]) rfl rfl rfl rfl ?_
  have hM2 : MI fh2 c aa := hM.frame hf2
  refine J_pop dL_law_451 rfl ?_
  refine J_aload_n dL_law_452 rfl rfl ?_
  refine J_sload_n dL_law_453 rfl rfl ?_
  refine J_iload_n dL_law_454 rfl rfl ?_
  refine Z_iconst (n := 1) dL_law_455 ?_
  refine Z_iadd (c := i + 1) dL_law_456 rfl ?_
  refine L_sldz (i := i + 1) dL_law_457 (by omega) (by omega) hL ?_
  obtain ⟨fs2, ho2⟩ := hM2.obj
  obtain ⟨Pm, hJ2, hQ2⟩ := M_force (l := l) (G := G) (nh := nh2) (sx_zr xs (i + 1)) hc hM2
  refine J_callV (st := []) dL_law_458 cv_L_60 hJ2 ho2 rfl rfl (Nat.le_of_ble_eq_true rfl) ⟨(Nat.le_of_ble_eq_true rfl), (Nat.le_of_ble_eq_true rfl)⟩ ⟨(by show ck + 0 + 0 ≤ 600000; omega), (by show sk + S + 0 ≤ 7302250; omega)⟩ (fun r2 h2 q2 => ?_)
  obtain ⟨e2, hn2, hM3, hf3⟩ := hQ2 r2 h2 q2
  obtain ⟨z2, e2⟩ := e2
  subst e2
  obtain ⟨nh3, fh3⟩ := h2
  have hn3 : nh3 = nh2 := hn2
  subst hn3
  refine J_nf (nh2 := nh3) (ck2 := ck + 0) (sk2 := sk + S) (st2 := [.int (zI z2)]) rfl rfl rfl rfl ?_
  have hI3 := hI2.frame hf3
  refine J_pop dL_law_461 rfl ?_
  refine J_goto (tgt := 1220) dL_law_462 (by decide) ?_
  exact kk _ _ _ _ _ _ hI3 hM3 (by omega) (by omega)
set_option maxHeartbeats 4000000 in
set_option maxRecDepth 100000 in
theorem law_case_11 {l : Launch} {G : jG} {b L : Nat} {xs : Nat → Int32} (hL : L ≤ 3072) {nh : Nat} {fh : Nat → Option va_E} {ck sk : Nat} {i c ph : Int} {aa : jAA} (i0 : 0 ≤ i) (i1 : i + 6 ≤ L) (hc : c ≤ 599) (c0 : 0 ≤ c) (hI : CI fh nh c ph aa) (hM : MI fh c aa) (hck : (ck : Int) ≤ 135 + 3 * c) (hsk : (sk : Int) ≤ 415506 + ph + 412 * c) (kk : ∀ (nh2 : Nat) (fh2 : Nat → Option va_E) (ck2 sk2 : Nat) (ph2 : Int) (aa2 : jAA), CI fh2 nh2 (c + 1) ph2 aa2 → MI fh2 (c + 1) aa2 → (ck2 : Int) ≤ 135 + 3 * (c + 1) → (sk2 : Int) ≤ 415506 + ph2 + 412 * (c + 1) → J l G ML_law room_1 (lE b L xs G) lQ (nh2, fh2) ck2 sk2 1220 [some (.retAddr 0), some (.ref 0), some (.ref 98), some (.int (zI i))] []) : J l G ML_law room_1 (lE b L xs G) lQ (nh, fh) ck sk 465 [some (.retAddr 0), some (.ref 0), some (.ref 98), some (.int (zI i))] [] := by
  refine J_aload_n dL_law_465 rfl rfl ?_
  refine J_sload_n dL_law_466 rfl rfl ?_
  refine J_iload_n dL_law_467 rfl rfl ?_
  refine Z_iconst (n := 1) dL_law_468 ?_
  refine Z_iadd (c := i + 1) dL_law_469 rfl ?_
  refine L_sldz (i := i + 1) dL_law_470 (by omega) (by omega) hL ?_
  refine J_sload_n dL_law_471 rfl rfl ?_
  refine J_iload_n dL_law_472 rfl rfl ?_
  refine Z_iconst (n := 2) dL_law_473 ?_
  refine Z_iadd (c := i + 2) dL_law_474 rfl ?_
  refine L_sldz (i := i + 2) dL_law_475 (by omega) (by omega) hL ?_
  obtain ⟨⟨fs1, ho1⟩, hp0, hp1⟩ := hI.obj
  obtain ⟨S, Po, hS, hJ, hQ⟩ := C_wall (l := l) (G := G) (sx_zr xs (i + 1)) (sx_zr xs (i + 2)) hc hI
  refine J_callV (st := []) dL_law_476 cv_L_61 hJ ho1 rfl rfl (Nat.le_of_ble_eq_true rfl) ⟨(Nat.le_of_ble_eq_true rfl), (Nat.le_of_ble_eq_true rfl)⟩ ⟨(by show ck + 0 ≤ 600000; omega), (by show sk + S ≤ 7302250; omega)⟩ (fun r1 h1 q1 => ?_)
  obtain ⟨e1, ⟨ph2, hI2, hy⟩, hf2⟩ := hQ r1 h1 q1
  subst e1
  obtain ⟨nh2, fh2⟩ := h1
  refine J_nf (nh2 := nh2) (ck2 := ck + 0) (sk2 := sk + S) (st2 := [.int (zI (waR (sx xs (i + 1)) (sx xs (i + 2)) aa.1))]) rfl rfl rfl rfl ?_
  have hM2 : MI fh2 c aa := hM.frame hf2
  refine J_pop dL_law_479 rfl ?_
  refine J_aload_n dL_law_480 rfl rfl ?_
  refine J_sload_n dL_law_481 rfl rfl ?_
  refine J_iload_n dL_law_482 rfl rfl ?_
  refine Z_iconst (n := 1) dL_law_483 ?_
  refine Z_iadd (c := i + 1) dL_law_484 rfl ?_
  refine L_sldz (i := i + 1) dL_law_485 (by omega) (by omega) hL ?_
  refine J_sload_n dL_law_486 rfl rfl ?_
  refine J_iload_n dL_law_487 rfl rfl ?_
  refine Z_iconst (n := 2) dL_law_488 ?_
  refine Z_iadd (c := i + 2) dL_law_489 rfl ?_
  refine L_sldz (i := i + 2) dL_law_490 (by omega) (by omega) hL ?_
  obtain ⟨fs2, ho2⟩ := hM2.obj
  obtain ⟨Pm, hJ2, hQ2⟩ := M_wall (l := l) (G := G) (nh := nh2) (sx_zr xs (i + 1)) (sx_zr xs (i + 2)) hc hM2
  refine J_callV (st := []) dL_law_491 cv_L_64 hJ2 ho2 rfl rfl (Nat.le_of_ble_eq_true rfl) ⟨(Nat.le_of_ble_eq_true rfl), (Nat.le_of_ble_eq_true rfl)⟩ ⟨(by show ck + 0 + 0 ≤ 600000; omega), (by show sk + S + 0 ≤ 7302250; omega)⟩ (fun r2 h2 q2 => ?_)
  obtain ⟨e2, hn2, hM3, hf3⟩ := hQ2 r2 h2 q2
  subst e2
  obtain ⟨nh3, fh3⟩ := h2
  have hn3 : nh3 = nh2 := hn2
  subst hn3
  refine J_nf (nh2 := nh3) (ck2 := ck + 0) (sk2 := sk + S) (st2 := [.int (zI (waR (sx xs (i + 1)) (sx xs (i + 2)) aa.1))]) rfl rfl rfl rfl ?_
  have hI3 := hI2.frame hf3
  refine J_pop dL_law_494 rfl ?_
  refine J_goto (tgt := 1220) dL_law_495 (by decide) ?_
  exact kk _ _ _ _ _ _ hI3 hM3 (by omega) (by omega)
set_option maxHeartbeats 4000000 in
set_option maxRecDepth 100000 in
theorem law_case_12 {l : Launch} {G : jG} {b L : Nat} {xs : Nat → Int32} (hL : L ≤ 3072) {nh : Nat} {fh : Nat → Option va_E} {ck sk : Nat} {i c ph : Int} {aa : jAA} (i0 : 0 ≤ i) (i1 : i + 6 ≤ L) (hc : c ≤ 599) (c0 : 0 ≤ c) (hI : CI fh nh c ph aa) (hM : MI fh c aa) (hck : (ck : Int) ≤ 135 + 3 * c) (hsk : (sk : Int) ≤ 415506 + ph + 412 * c) (kk : ∀ (nh2 : Nat) (fh2 : Nat → Option va_E) (ck2 sk2 : Nat) (ph2 : Int) (aa2 : jAA), CI fh2 nh2 (c + 1) ph2 aa2 → MI fh2 (c + 1) aa2 → (ck2 : Int) ≤ 135 + 3 * (c + 1) → (sk2 : Int) ≤ 415506 + ph2 + 412 * (c + 1) → J l G ML_law room_1 (lE b L xs G) lQ (nh2, fh2) ck2 sk2 1220 [some (.retAddr 0), some (.ref 0), some (.ref 98), some (.int (zI i))] []) : J l G ML_law room_1 (lE b L xs G) lQ (nh, fh) ck sk 498 [some (.retAddr 0), some (.ref 0), some (.ref 98), some (.int (zI i))] [] := by
  refine J_aload_n dL_law_498 rfl rfl ?_
  refine J_sload_n dL_law_499 rfl rfl ?_
  refine J_iload_n dL_law_500 rfl rfl ?_
  refine Z_iconst (n := 1) dL_law_501 ?_
  refine Z_iadd (c := i + 1) dL_law_502 rfl ?_
  refine L_sldz (i := i + 1) dL_law_503 (by omega) (by omega) hL ?_
  refine J_sload_n dL_law_504 rfl rfl ?_
  refine J_iload_n dL_law_505 rfl rfl ?_
  refine Z_iconst (n := 2) dL_law_506 ?_
  refine Z_iadd (c := i + 2) dL_law_507 rfl ?_
  refine L_sldz (i := i + 2) dL_law_508 (by omega) (by omega) hL ?_
  obtain ⟨⟨fs1, ho1⟩, hp0, hp1⟩ := hI.obj
  obtain ⟨S, Po, hS, hJ, hQ⟩ := C_breach (l := l) (G := G) (sx_zr xs (i + 1)) (sx_zr xs (i + 2)) hc hI
  refine J_callV (st := []) dL_law_509 cv_L_65 hJ ho1 rfl rfl (Nat.le_of_ble_eq_true rfl) ⟨(Nat.le_of_ble_eq_true rfl), (Nat.le_of_ble_eq_true rfl)⟩ ⟨(by show ck + 0 ≤ 600000; omega), (by show sk + S ≤ 7302250; omega)⟩ (fun r1 h1 q1 => ?_)
  obtain ⟨e1, ⟨ph2, hI2, hy⟩, hf2⟩ := hQ r1 h1 q1
  subst e1
  obtain ⟨nh2, fh2⟩ := h1
  refine J_nf (nh2 := nh2) (ck2 := ck + 0) (sk2 := sk + S) (st2 := [.int (zI (brR (sx xs (i + 1)) (sx xs (i + 2)) aa.1))]) rfl rfl rfl rfl ?_
  have hM2 : MI fh2 c aa := hM.frame hf2
  refine J_pop dL_law_512 rfl ?_
  refine J_aload_n dL_law_513 rfl rfl ?_
  refine J_sload_n dL_law_514 rfl rfl ?_
  refine J_iload_n dL_law_515 rfl rfl ?_
  refine Z_iconst (n := 1) dL_law_516 ?_
  refine Z_iadd (c := i + 1) dL_law_517 rfl ?_
  refine L_sldz (i := i + 1) dL_law_518 (by omega) (by omega) hL ?_
  refine J_sload_n dL_law_519 rfl rfl ?_
  refine J_iload_n dL_law_520 rfl rfl ?_
  refine Z_iconst (n := 2) dL_law_521 ?_
  refine Z_iadd (c := i + 2) dL_law_522 rfl ?_
  refine L_sldz (i := i + 2) dL_law_523 (by omega) (by omega) hL ?_
  obtain ⟨fs2, ho2⟩ := hM2.obj
  obtain ⟨Pm, hJ2, hQ2⟩ := M_breach (l := l) (G := G) (nh := nh2) (sx_zr xs (i + 1)) (sx_zr xs (i + 2)) hc hM2
  refine J_callV (st := []) dL_law_524 cv_L_68 hJ2 ho2 rfl rfl (Nat.le_of_ble_eq_true rfl) ⟨(Nat.le_of_ble_eq_true rfl), (Nat.le_of_ble_eq_true rfl)⟩ ⟨(by show ck + 0 + 0 ≤ 600000; omega), (by show sk + S + 0 ≤ 7302250; omega)⟩ (fun r2 h2 q2 => ?_)
  obtain ⟨e2, hn2, hM3, hf3⟩ := hQ2 r2 h2 q2
  subst e2
  obtain ⟨nh3, fh3⟩ := h2
  have hn3 : nh3 = nh2 := hn2
  subst hn3
  refine J_nf (nh2 := nh3) (ck2 := ck + 0) (sk2 := sk + S) (st2 := [.int (zI (brR (sx xs (i + 1)) (sx xs (i + 2)) aa.1))]) rfl rfl rfl rfl ?_
  have hI3 := hI2.frame hf3
  refine J_pop dL_law_527 rfl ?_
  refine J_goto (tgt := 1220) dL_law_528 (by decide) ?_
  exact kk _ _ _ _ _ _ hI3 hM3 (by omega) (by omega)
set_option maxHeartbeats 4000000 in
set_option maxRecDepth 100000 in
theorem law_case_13 {l : Launch} {G : jG} {b L : Nat} {xs : Nat → Int32} (hL : L ≤ 3072) {nh : Nat} {fh : Nat → Option va_E} {ck sk : Nat} {i c ph : Int} {aa : jAA} (i0 : 0 ≤ i) (i1 : i + 6 ≤ L) (hc : c ≤ 599) (c0 : 0 ≤ c) (hI : CI fh nh c ph aa) (hM : MI fh c aa) (hck : (ck : Int) ≤ 135 + 3 * c) (hsk : (sk : Int) ≤ 415506 + ph + 412 * c) (kk : ∀ (nh2 : Nat) (fh2 : Nat → Option va_E) (ck2 sk2 : Nat) (ph2 : Int) (aa2 : jAA), CI fh2 nh2 (c + 1) ph2 aa2 → MI fh2 (c + 1) aa2 → (ck2 : Int) ≤ 135 + 3 * (c + 1) → (sk2 : Int) ≤ 415506 + ph2 + 412 * (c + 1) → J l G ML_law room_1 (lE b L xs G) lQ (nh2, fh2) ck2 sk2 1220 [some (.retAddr 0), some (.ref 0), some (.ref 98), some (.int (zI i))] []) : J l G ML_law room_1 (lE b L xs G) lQ (nh, fh) ck sk 531 [some (.retAddr 0), some (.ref 0), some (.ref 98), some (.int (zI i))] [] := by
  refine J_aload_n dL_law_531 rfl rfl ?_
  refine J_sload_n dL_law_532 rfl rfl ?_
  refine J_iload_n dL_law_533 rfl rfl ?_
  refine Z_iconst (n := 1) dL_law_534 ?_
  refine Z_iadd (c := i + 1) dL_law_535 rfl ?_
  refine L_sldz (i := i + 1) dL_law_536 (by omega) (by omega) hL ?_
  refine J_sload_n dL_law_537 rfl rfl ?_
  refine J_iload_n dL_law_538 rfl rfl ?_
  refine Z_iconst (n := 2) dL_law_539 ?_
  refine Z_iadd (c := i + 2) dL_law_540 rfl ?_
  refine L_sldz (i := i + 2) dL_law_541 (by omega) (by omega) hL ?_
  refine J_sload_n dL_law_542 rfl rfl ?_
  refine J_iload_n dL_law_543 rfl rfl ?_
  refine Z_iconst (n := 3) dL_law_544 ?_
  refine Z_iadd (c := i + 3) dL_law_545 rfl ?_
  refine L_sldz (i := i + 3) dL_law_546 (by omega) (by omega) hL ?_
  obtain ⟨⟨fs1, ho1⟩, hp0, hp1⟩ := hI.obj
  obtain ⟨S, Po, hS, hJ, hQ⟩ := C_step (l := l) (G := G) (sx_zr xs (i + 1)) (sx_zr xs (i + 2)) (sx_zr xs (i + 3)) hc hI
  refine J_callV (st := []) dL_law_547 cv_L_69 hJ ho1 rfl rfl (Nat.le_of_ble_eq_true rfl) ⟨(Nat.le_of_ble_eq_true rfl), (Nat.le_of_ble_eq_true rfl)⟩ ⟨(by show ck + 1 ≤ 600000; omega), (by show sk + S ≤ 7302250; omega)⟩ (fun r1 h1 q1 => ?_)
  obtain ⟨e1, ⟨ph2, hI2, hy⟩, hf2⟩ := hQ r1 h1 q1
  obtain ⟨z1, e1⟩ := e1
  subst e1
  obtain ⟨nh2, fh2⟩ := h1
  refine J_nf (nh2 := nh2) (ck2 := ck + 1) (sk2 := sk + S) (st2 := [.int (zI z1)]) rfl rfl rfl rfl ?_
  have hM2 : MI fh2 c aa := hM.frame hf2
  refine J_pop dL_law_550 rfl ?_
  refine J_aload_n dL_law_551 rfl rfl ?_
  refine J_sload_n dL_law_552 rfl rfl ?_
  refine J_iload_n dL_law_553 rfl rfl ?_
  refine Z_iconst (n := 1) dL_law_554 ?_
  refine Z_iadd (c := i + 1) dL_law_555 rfl ?_
  refine L_sldz (i := i + 1) dL_law_556 (by omega) (by omega) hL ?_
  refine J_sload_n dL_law_557 rfl rfl ?_
  refine J_iload_n dL_law_558 rfl rfl ?_
  refine Z_iconst (n := 2) dL_law_559 ?_
  refine Z_iadd (c := i + 2) dL_law_560 rfl ?_
  refine L_sldz (i := i + 2) dL_law_561 (by omega) (by omega) hL ?_
  refine J_sload_n dL_law_562 rfl rfl ?_
  refine J_iload_n dL_law_563 rfl rfl ?_
  refine Z_iconst (n := 3) dL_law_564 ?_
  refine Z_iadd (c := i + 3) dL_law_565 rfl ?_
  refine L_sldz (i := i + 3) dL_law_566 (by omega) (by omega) hL ?_
  obtain ⟨fs2, ho2⟩ := hM2.obj
  obtain ⟨Pm, hJ2, hQ2⟩ := M_step (l := l) (G := G) (nh := nh2) (sx_zr xs (i + 1)) (sx_zr xs (i + 2)) (sx_zr xs (i + 3)) hc hM2
  refine J_callV (st := []) dL_law_567 cv_L_73 hJ2 ho2 rfl rfl (Nat.le_of_ble_eq_true rfl) ⟨(Nat.le_of_ble_eq_true rfl), (Nat.le_of_ble_eq_true rfl)⟩ ⟨(by show ck + 1 + 0 ≤ 600000; omega), (by show sk + S + 0 ≤ 7302250; omega)⟩ (fun r2 h2 q2 => ?_)
  obtain ⟨e2, hn2, hM3, hf3⟩ := hQ2 r2 h2 q2
  obtain ⟨z2, e2⟩ := e2
  subst e2
  obtain ⟨nh3, fh3⟩ := h2
  have hn3 : nh3 = nh2 := hn2
  subst hn3
  refine J_nf (nh2 := nh3) (ck2 := ck + 1) (sk2 := sk + S) (st2 := [.int (zI z2)]) rfl rfl rfl rfl ?_
  have hI3 := hI2.frame hf3
  refine J_pop dL_law_570 rfl ?_
  refine J_goto (tgt := 1220) dL_law_571 (by decide) ?_
  exact kk _ _ _ _ _ _ hI3 hM3 (by omega) (by omega)
set_option maxHeartbeats 4000000 in
set_option maxRecDepth 100000 in
theorem law_case_14 {l : Launch} {G : jG} {b L : Nat} {xs : Nat → Int32} (hL : L ≤ 3072) {nh : Nat} {fh : Nat → Option va_E} {ck sk : Nat} {i c ph : Int} {aa : jAA} (i0 : 0 ≤ i) (i1 : i + 6 ≤ L) (hc : c ≤ 599) (c0 : 0 ≤ c) (hI : CI fh nh c ph aa) (hM : MI fh c aa) (hck : (ck : Int) ≤ 135 + 3 * c) (hsk : (sk : Int) ≤ 415506 + ph + 412 * c) (kk : ∀ (nh2 : Nat) (fh2 : Nat → Option va_E) (ck2 sk2 : Nat) (ph2 : Int) (aa2 : jAA), CI fh2 nh2 (c + 1) ph2 aa2 → MI fh2 (c + 1) aa2 → (ck2 : Int) ≤ 135 + 3 * (c + 1) → (sk2 : Int) ≤ 415506 + ph2 + 412 * (c + 1) → J l G ML_law room_1 (lE b L xs G) lQ (nh2, fh2) ck2 sk2 1220 [some (.retAddr 0), some (.ref 0), some (.ref 98), some (.int (zI i))] []) : J l G ML_law room_1 (lE b L xs G) lQ (nh, fh) ck sk 574 [some (.retAddr 0), some (.ref 0), some (.ref 98), some (.int (zI i))] [] := by
  refine J_aload_n dL_law_574 rfl rfl ?_
  refine J_sload_n dL_law_575 rfl rfl ?_
  refine J_iload_n dL_law_576 rfl rfl ?_
  refine Z_iconst (n := 1) dL_law_577 ?_
  refine Z_iadd (c := i + 1) dL_law_578 rfl ?_
  refine L_sldz (i := i + 1) dL_law_579 (by omega) (by omega) hL ?_
  refine J_sload_n dL_law_580 rfl rfl ?_
  refine J_iload_n dL_law_581 rfl rfl ?_
  refine Z_iconst (n := 2) dL_law_582 ?_
  refine Z_iadd (c := i + 2) dL_law_583 rfl ?_
  refine L_sldz (i := i + 2) dL_law_584 (by omega) (by omega) hL ?_
  refine J_sload_n dL_law_585 rfl rfl ?_
  refine J_iload_n dL_law_586 rfl rfl ?_
  refine Z_iconst (n := 3) dL_law_587 ?_
  refine Z_iadd (c := i + 3) dL_law_588 rfl ?_
  refine L_sldz (i := i + 3) dL_law_589 (by omega) (by omega) hL ?_
  obtain ⟨⟨fs1, ho1⟩, hp0, hp1⟩ := hI.obj
  obtain ⟨S, Po, hS, hJ, hQ⟩ := C_far (l := l) (G := G) (sx_zr xs (i + 1)) (sx_zr xs (i + 2)) (sx_zr xs (i + 3)) hc hI
  refine J_callV (st := []) dL_law_590 cv_L_74 hJ ho1 rfl rfl (Nat.le_of_ble_eq_true rfl) ⟨(Nat.le_of_ble_eq_true rfl), (Nat.le_of_ble_eq_true rfl)⟩ ⟨(by show ck + 1 ≤ 600000; omega), (by show sk + S ≤ 7302250; omega)⟩ (fun r1 h1 q1 => ?_)
  obtain ⟨e1, ⟨ph2, hI2, hy⟩, hf2⟩ := hQ r1 h1 q1
  obtain ⟨z1, e1⟩ := e1
  subst e1
  obtain ⟨nh2, fh2⟩ := h1
  refine J_nf (nh2 := nh2) (ck2 := ck + 1) (sk2 := sk + S) (st2 := [.int (zI z1)]) rfl rfl rfl rfl ?_
  have hM2 : MI fh2 c aa := hM.frame hf2
  refine J_pop dL_law_593 rfl ?_
  refine J_aload_n dL_law_594 rfl rfl ?_
  refine J_sload_n dL_law_595 rfl rfl ?_
  refine J_iload_n dL_law_596 rfl rfl ?_
  refine Z_iconst (n := 1) dL_law_597 ?_
  refine Z_iadd (c := i + 1) dL_law_598 rfl ?_
  refine L_sldz (i := i + 1) dL_law_599 (by omega) (by omega) hL ?_
  refine J_sload_n dL_law_600 rfl rfl ?_
  refine J_iload_n dL_law_601 rfl rfl ?_
  refine Z_iconst (n := 2) dL_law_602 ?_
  refine Z_iadd (c := i + 2) dL_law_603 rfl ?_
  refine L_sldz (i := i + 2) dL_law_604 (by omega) (by omega) hL ?_
  refine J_sload_n dL_law_605 rfl rfl ?_
  refine J_iload_n dL_law_606 rfl rfl ?_
  refine Z_iconst (n := 3) dL_law_607 ?_
  refine Z_iadd (c := i + 3) dL_law_608 rfl ?_
  refine L_sldz (i := i + 3) dL_law_609 (by omega) (by omega) hL ?_
  obtain ⟨fs2, ho2⟩ := hM2.obj
  obtain ⟨Pm, hJ2, hQ2⟩ := M_far (l := l) (G := G) (nh := nh2) (sx_zr xs (i + 1)) (sx_zr xs (i + 2)) (sx_zr xs (i + 3)) hc hM2
  refine J_callV (st := []) dL_law_610 cv_L_77 hJ2 ho2 rfl rfl (Nat.le_of_ble_eq_true rfl) ⟨(Nat.le_of_ble_eq_true rfl), (Nat.le_of_ble_eq_true rfl)⟩ ⟨(by show ck + 1 + 0 ≤ 600000; omega), (by show sk + S + 0 ≤ 7302250; omega)⟩ (fun r2 h2 q2 => ?_)
  obtain ⟨e2, hn2, hM3, hf3⟩ := hQ2 r2 h2 q2
  obtain ⟨z2, e2⟩ := e2
  subst e2
  obtain ⟨nh3, fh3⟩ := h2
  have hn3 : nh3 = nh2 := hn2
  subst hn3
  refine J_nf (nh2 := nh3) (ck2 := ck + 1) (sk2 := sk + S) (st2 := [.int (zI z2)]) rfl rfl rfl rfl ?_
  have hI3 := hI2.frame hf3
  refine J_pop dL_law_613 rfl ?_
  refine J_goto (tgt := 1220) dL_law_614 (by decide) ?_
  exact kk _ _ _ _ _ _ hI3 hM3 (by omega) (by omega)
set_option maxHeartbeats 4000000 in
set_option maxRecDepth 100000 in
theorem law_case_15 {l : Launch} {G : jG} {b L : Nat} {xs : Nat → Int32} (hL : L ≤ 3072) {nh : Nat} {fh : Nat → Option va_E} {ck sk : Nat} {i c ph : Int} {aa : jAA} (i0 : 0 ≤ i) (i1 : i + 6 ≤ L) (hc : c ≤ 599) (c0 : 0 ≤ c) (hI : CI fh nh c ph aa) (hM : MI fh c aa) (hck : (ck : Int) ≤ 135 + 3 * c) (hsk : (sk : Int) ≤ 415506 + ph + 412 * c) (kk : ∀ (nh2 : Nat) (fh2 : Nat → Option va_E) (ck2 sk2 : Nat) (ph2 : Int) (aa2 : jAA), CI fh2 nh2 (c + 1) ph2 aa2 → MI fh2 (c + 1) aa2 → (ck2 : Int) ≤ 135 + 3 * (c + 1) → (sk2 : Int) ≤ 415506 + ph2 + 412 * (c + 1) → J l G ML_law room_1 (lE b L xs G) lQ (nh2, fh2) ck2 sk2 1220 [some (.retAddr 0), some (.ref 0), some (.ref 98), some (.int (zI i))] []) : J l G ML_law room_1 (lE b L xs G) lQ (nh, fh) ck sk 617 [some (.retAddr 0), some (.ref 0), some (.ref 98), some (.int (zI i))] [] := by
  refine J_aload_n dL_law_617 rfl rfl ?_
  refine J_sload_n dL_law_618 rfl rfl ?_
  refine J_iload_n dL_law_619 rfl rfl ?_
  refine Z_iconst (n := 1) dL_law_620 ?_
  refine Z_iadd (c := i + 1) dL_law_621 rfl ?_
  refine L_sldz (i := i + 1) dL_law_622 (by omega) (by omega) hL ?_
  refine J_sload_n dL_law_623 rfl rfl ?_
  refine J_iload_n dL_law_624 rfl rfl ?_
  refine Z_iconst (n := 2) dL_law_625 ?_
  refine Z_iadd (c := i + 2) dL_law_626 rfl ?_
  refine L_sldz (i := i + 2) dL_law_627 (by omega) (by omega) hL ?_
  refine J_sload_n dL_law_628 rfl rfl ?_
  refine J_iload_n dL_law_629 rfl rfl ?_
  refine Z_iconst (n := 3) dL_law_630 ?_
  refine Z_iadd (c := i + 3) dL_law_631 rfl ?_
  refine L_sldz (i := i + 3) dL_law_632 (by omega) (by omega) hL ?_
  obtain ⟨⟨fs1, ho1⟩, hp0, hp1⟩ := hI.obj
  obtain ⟨S, Po, hS, hJ, hQ⟩ := C_way (l := l) (G := G) (sx_zr xs (i + 1)) (sx_zr xs (i + 2)) (sx_zr xs (i + 3)) hc hI
  refine J_callV (st := []) dL_law_633 cv_L_78 hJ ho1 rfl rfl (Nat.le_of_ble_eq_true rfl) ⟨(Nat.le_of_ble_eq_true rfl), (Nat.le_of_ble_eq_true rfl)⟩ ⟨(by show ck + 1 ≤ 600000; omega), (by show sk + S ≤ 7302250; omega)⟩ (fun r1 h1 q1 => ?_)
  obtain ⟨e1, ⟨ph2, hI2, hy⟩, hf2⟩ := hQ r1 h1 q1
  obtain ⟨z1, e1⟩ := e1
  subst e1
  obtain ⟨nh2, fh2⟩ := h1
  refine J_nf (nh2 := nh2) (ck2 := ck + 1) (sk2 := sk + S) (st2 := [.int (zI z1)]) rfl rfl rfl rfl ?_
  have hM2 : MI fh2 c aa := hM.frame hf2
  refine J_pop dL_law_636 rfl ?_
  refine J_aload_n dL_law_637 rfl rfl ?_
  refine J_sload_n dL_law_638 rfl rfl ?_
  refine J_iload_n dL_law_639 rfl rfl ?_
  refine Z_iconst (n := 1) dL_law_640 ?_
  refine Z_iadd (c := i + 1) dL_law_641 rfl ?_
  refine L_sldz (i := i + 1) dL_law_642 (by omega) (by omega) hL ?_
  refine J_sload_n dL_law_643 rfl rfl ?_
  refine J_iload_n dL_law_644 rfl rfl ?_
  refine Z_iconst (n := 2) dL_law_645 ?_
  refine Z_iadd (c := i + 2) dL_law_646 rfl ?_
  refine L_sldz (i := i + 2) dL_law_647 (by omega) (by omega) hL ?_
  refine J_sload_n dL_law_648 rfl rfl ?_
  refine J_iload_n dL_law_649 rfl rfl ?_
  refine Z_iconst (n := 3) dL_law_650 ?_
  refine Z_iadd (c := i + 3) dL_law_651 rfl ?_
  refine L_sldz (i := i + 3) dL_law_652 (by omega) (by omega) hL ?_
  obtain ⟨fs2, ho2⟩ := hM2.obj
  obtain ⟨Pm, hJ2, hQ2⟩ := M_way (l := l) (G := G) (nh := nh2) (sx_zr xs (i + 1)) (sx_zr xs (i + 2)) (sx_zr xs (i + 3)) hc hM2
  refine J_callV (st := []) dL_law_653 cv_L_81 hJ2 ho2 rfl rfl (Nat.le_of_ble_eq_true rfl) ⟨(Nat.le_of_ble_eq_true rfl), (Nat.le_of_ble_eq_true rfl)⟩ ⟨(by show ck + 1 + 0 ≤ 600000; omega), (by show sk + S + 0 ≤ 7302250; omega)⟩ (fun r2 h2 q2 => ?_)
  obtain ⟨e2, hn2, hM3, hf3⟩ := hQ2 r2 h2 q2
  obtain ⟨z2, e2⟩ := e2
  subst e2
  obtain ⟨nh3, fh3⟩ := h2
  have hn3 : nh3 = nh2 := hn2
  subst hn3
  refine J_nf (nh2 := nh3) (ck2 := ck + 1) (sk2 := sk + S) (st2 := [.int (zI z2)]) rfl rfl rfl rfl ?_
  have hI3 := hI2.frame hf3
  refine J_pop dL_law_656 rfl ?_
  refine J_goto (tgt := 1220) dL_law_657 (by decide) ?_
  exact kk _ _ _ _ _ _ hI3 hM3 (by omega) (by omega)
set_option maxHeartbeats 4000000 in
set_option maxRecDepth 100000 in
theorem law_case_16 {l : Launch} {G : jG} {b L : Nat} {xs : Nat → Int32} (hL : L ≤ 3072) {nh : Nat} {fh : Nat → Option va_E} {ck sk : Nat} {i c ph : Int} {aa : jAA} (i0 : 0 ≤ i) (i1 : i + 6 ≤ L) (hc : c ≤ 599) (c0 : 0 ≤ c) (hI : CI fh nh c ph aa) (hM : MI fh c aa) (hck : (ck : Int) ≤ 135 + 3 * c) (hsk : (sk : Int) ≤ 415506 + ph + 412 * c) (kk : ∀ (nh2 : Nat) (fh2 : Nat → Option va_E) (ck2 sk2 : Nat) (ph2 : Int) (aa2 : jAA), CI fh2 nh2 (c + 1) ph2 aa2 → MI fh2 (c + 1) aa2 → (ck2 : Int) ≤ 135 + 3 * (c + 1) → (sk2 : Int) ≤ 415506 + ph2 + 412 * (c + 1) → J l G ML_law room_1 (lE b L xs G) lQ (nh2, fh2) ck2 sk2 1220 [some (.retAddr 0), some (.ref 0), some (.ref 98), some (.int (zI i))] []) : J l G ML_law room_1 (lE b L xs G) lQ (nh, fh) ck sk 660 [some (.retAddr 0), some (.ref 0), some (.ref 98), some (.int (zI i))] [] := by
  refine J_aload_n dL_law_660 rfl rfl ?_
  refine J_sload_n dL_law_661 rfl rfl ?_
  refine J_iload_n dL_law_662 rfl rfl ?_
  refine Z_iconst (n := 1) dL_law_663 ?_
  refine Z_iadd (c := i + 1) dL_law_664 rfl ?_
  refine L_sldz (i := i + 1) dL_law_665 (by omega) (by omega) hL ?_
  refine J_sload_n dL_law_666 rfl rfl ?_
  refine J_iload_n dL_law_667 rfl rfl ?_
  refine Z_iconst (n := 2) dL_law_668 ?_
  refine Z_iadd (c := i + 2) dL_law_669 rfl ?_
  refine L_sldz (i := i + 2) dL_law_670 (by omega) (by omega) hL ?_
  obtain ⟨⟨fs1, ho1⟩, hp0, hp1⟩ := hI.obj
  obtain ⟨S, Po, hS, hJ, hQ⟩ := C_reach (l := l) (G := G) (sx_zr xs (i + 1)) (sx_zr xs (i + 2)) hc hI
  refine J_callV (st := []) dL_law_671 cv_L_82 hJ ho1 rfl rfl (Nat.le_of_ble_eq_true rfl) ⟨(Nat.le_of_ble_eq_true rfl), (Nat.le_of_ble_eq_true rfl)⟩ ⟨(by show ck + 1 ≤ 600000; omega), (by show sk + S ≤ 7302250; omega)⟩ (fun r1 h1 q1 => ?_)
  obtain ⟨e1, ⟨ph2, hI2, hy⟩, hf2⟩ := hQ r1 h1 q1
  obtain ⟨z1, e1⟩ := e1
  subst e1
  obtain ⟨nh2, fh2⟩ := h1
  refine J_nf (nh2 := nh2) (ck2 := ck + 1) (sk2 := sk + S) (st2 := [.int (zI z1)]) rfl rfl rfl rfl ?_
  have hM2 : MI fh2 c aa := hM.frame hf2
  refine J_pop dL_law_674 rfl ?_
  refine J_aload_n dL_law_675 rfl rfl ?_
  refine J_sload_n dL_law_676 rfl rfl ?_
  refine J_iload_n dL_law_677 rfl rfl ?_
  refine Z_iconst (n := 1) dL_law_678 ?_
  refine Z_iadd (c := i + 1) dL_law_679 rfl ?_
  refine L_sldz (i := i + 1) dL_law_680 (by omega) (by omega) hL ?_
  refine J_sload_n dL_law_681 rfl rfl ?_
  refine J_iload_n dL_law_682 rfl rfl ?_
  refine Z_iconst (n := 2) dL_law_683 ?_
  refine Z_iadd (c := i + 2) dL_law_684 rfl ?_
  refine L_sldz (i := i + 2) dL_law_685 (by omega) (by omega) hL ?_
  obtain ⟨fs2, ho2⟩ := hM2.obj
  obtain ⟨Pm, hJ2, hQ2⟩ := M_reach (l := l) (G := G) (nh := nh2) (sx_zr xs (i + 1)) (sx_zr xs (i + 2)) hc hM2
  refine J_callV (st := []) dL_law_686 cv_L_85 hJ2 ho2 rfl rfl (Nat.le_of_ble_eq_true rfl) ⟨(Nat.le_of_ble_eq_true rfl), (Nat.le_of_ble_eq_true rfl)⟩ ⟨(by show ck + 1 + 0 ≤ 600000; omega), (by show sk + S + 0 ≤ 7302250; omega)⟩ (fun r2 h2 q2 => ?_)
  obtain ⟨e2, hn2, hM3, hf3⟩ := hQ2 r2 h2 q2
  obtain ⟨z2, e2⟩ := e2
  subst e2
  obtain ⟨nh3, fh3⟩ := h2
  have hn3 : nh3 = nh2 := hn2
  subst hn3
  refine J_nf (nh2 := nh3) (ck2 := ck + 1) (sk2 := sk + S) (st2 := [.int (zI z2)]) rfl rfl rfl rfl ?_
  have hI3 := hI2.frame hf3
  refine J_pop dL_law_689 rfl ?_
  refine J_goto (tgt := 1220) dL_law_690 (by decide) ?_
  exact kk _ _ _ _ _ _ hI3 hM3 (by omega) (by omega)
set_option maxHeartbeats 4000000 in
set_option maxRecDepth 100000 in
theorem law_case_17 {l : Launch} {G : jG} {b L : Nat} {xs : Nat → Int32} (hL : L ≤ 3072) {nh : Nat} {fh : Nat → Option va_E} {ck sk : Nat} {i c ph : Int} {aa : jAA} (i0 : 0 ≤ i) (i1 : i + 6 ≤ L) (hc : c ≤ 599) (c0 : 0 ≤ c) (hI : CI fh nh c ph aa) (hM : MI fh c aa) (hck : (ck : Int) ≤ 135 + 3 * c) (hsk : (sk : Int) ≤ 415506 + ph + 412 * c) (kk : ∀ (nh2 : Nat) (fh2 : Nat → Option va_E) (ck2 sk2 : Nat) (ph2 : Int) (aa2 : jAA), CI fh2 nh2 (c + 1) ph2 aa2 → MI fh2 (c + 1) aa2 → (ck2 : Int) ≤ 135 + 3 * (c + 1) → (sk2 : Int) ≤ 415506 + ph2 + 412 * (c + 1) → J l G ML_law room_1 (lE b L xs G) lQ (nh2, fh2) ck2 sk2 1220 [some (.retAddr 0), some (.ref 0), some (.ref 98), some (.int (zI i))] []) : J l G ML_law room_1 (lE b L xs G) lQ (nh, fh) ck sk 693 [some (.retAddr 0), some (.ref 0), some (.ref 98), some (.int (zI i))] [] := by
  refine J_aload_n dL_law_693 rfl rfl ?_
  refine J_sload_n dL_law_694 rfl rfl ?_
  refine J_iload_n dL_law_695 rfl rfl ?_
  refine Z_iconst (n := 1) dL_law_696 ?_
  refine Z_iadd (c := i + 1) dL_law_697 rfl ?_
  refine L_sldz (i := i + 1) dL_law_698 (by omega) (by omega) hL ?_
  refine J_sload_n dL_law_699 rfl rfl ?_
  refine J_iload_n dL_law_700 rfl rfl ?_
  refine Z_iconst (n := 2) dL_law_701 ?_
  refine Z_iadd (c := i + 2) dL_law_702 rfl ?_
  refine L_sldz (i := i + 2) dL_law_703 (by omega) (by omega) hL ?_
  obtain ⟨⟨fs1, ho1⟩, hp0, hp1⟩ := hI.obj
  obtain ⟨S, Po, hS, hJ, hQ⟩ := C_read (l := l) (G := G) (sx_zr xs (i + 1)) (sx_zr xs (i + 2)) hc hI
  refine J_callV (st := []) dL_law_704 cv_L_86 hJ ho1 rfl rfl (Nat.le_of_ble_eq_true rfl) ⟨(Nat.le_of_ble_eq_true rfl), (Nat.le_of_ble_eq_true rfl)⟩ ⟨(by show ck + 0 ≤ 600000; omega), (by show sk + S ≤ 7302250; omega)⟩ (fun r1 h1 q1 => ?_)
  obtain ⟨e1, ⟨ph2, hI2, hy⟩, hf2⟩ := hQ r1 h1 q1
  subst e1
  obtain ⟨nh2, fh2⟩ := h1
  refine J_nf (nh2 := nh2) (ck2 := ck + 0) (sk2 := sk + S) (st2 := [.int (zI (rdR (sx xs (i + 1)) (sx xs (i + 2)) aa.1))]) rfl rfl rfl rfl ?_
  have hM2 : MI fh2 c aa := hM.frame hf2
  refine J_pop dL_law_707 rfl ?_
  refine J_aload_n dL_law_708 rfl rfl ?_
  refine J_sload_n dL_law_709 rfl rfl ?_
  refine J_iload_n dL_law_710 rfl rfl ?_
  refine Z_iconst (n := 1) dL_law_711 ?_
  refine Z_iadd (c := i + 1) dL_law_712 rfl ?_
  refine L_sldz (i := i + 1) dL_law_713 (by omega) (by omega) hL ?_
  refine J_sload_n dL_law_714 rfl rfl ?_
  refine J_iload_n dL_law_715 rfl rfl ?_
  refine Z_iconst (n := 2) dL_law_716 ?_
  refine Z_iadd (c := i + 2) dL_law_717 rfl ?_
  refine L_sldz (i := i + 2) dL_law_718 (by omega) (by omega) hL ?_
  obtain ⟨fs2, ho2⟩ := hM2.obj
  obtain ⟨Pm, hJ2, hQ2⟩ := M_read (l := l) (G := G) (nh := nh2) (sx_zr xs (i + 1)) (sx_zr xs (i + 2)) hc hM2
  refine J_callV (st := []) dL_law_719 cv_L_89 hJ2 ho2 rfl rfl (Nat.le_of_ble_eq_true rfl) ⟨(Nat.le_of_ble_eq_true rfl), (Nat.le_of_ble_eq_true rfl)⟩ ⟨(by show ck + 0 + 0 ≤ 600000; omega), (by show sk + S + 0 ≤ 7302250; omega)⟩ (fun r2 h2 q2 => ?_)
  obtain ⟨e2, hn2, hM3, hf3⟩ := hQ2 r2 h2 q2
  subst e2
  obtain ⟨nh3, fh3⟩ := h2
  have hn3 : nh3 = nh2 := hn2
  subst hn3
  refine J_nf (nh2 := nh3) (ck2 := ck + 0) (sk2 := sk + S) (st2 := [.int (zI (rdR (sx xs (i + 1)) (sx xs (i + 2)) aa.1))]) rfl rfl rfl rfl ?_
  have hI3 := hI2.frame hf3
  refine J_pop dL_law_722 rfl ?_
  refine J_goto (tgt := 1220) dL_law_723 (by decide) ?_
  exact kk _ _ _ _ _ _ hI3 hM3 (by omega) (by omega)
set_option maxHeartbeats 4000000 in
set_option maxRecDepth 100000 in
theorem law_case_18 {l : Launch} {G : jG} {b L : Nat} {xs : Nat → Int32} (hL : L ≤ 3072) {nh : Nat} {fh : Nat → Option va_E} {ck sk : Nat} {i c ph : Int} {aa : jAA} (i0 : 0 ≤ i) (i1 : i + 6 ≤ L) (hc : c ≤ 599) (c0 : 0 ≤ c) (hI : CI fh nh c ph aa) (hM : MI fh c aa) (hck : (ck : Int) ≤ 135 + 3 * c) (hsk : (sk : Int) ≤ 415506 + ph + 412 * c) (kk : ∀ (nh2 : Nat) (fh2 : Nat → Option va_E) (ck2 sk2 : Nat) (ph2 : Int) (aa2 : jAA), CI fh2 nh2 (c + 1) ph2 aa2 → MI fh2 (c + 1) aa2 → (ck2 : Int) ≤ 135 + 3 * (c + 1) → (sk2 : Int) ≤ 415506 + ph2 + 412 * (c + 1) → J l G ML_law room_1 (lE b L xs G) lQ (nh2, fh2) ck2 sk2 1220 [some (.retAddr 0), some (.ref 0), some (.ref 98), some (.int (zI i))] []) : J l G ML_law room_1 (lE b L xs G) lQ (nh, fh) ck sk 726 [some (.retAddr 0), some (.ref 0), some (.ref 98), some (.int (zI i))] [] := by
  refine J_aload_n dL_law_726 rfl rfl ?_
  refine J_sload_n dL_law_727 rfl rfl ?_
  refine J_iload_n dL_law_728 rfl rfl ?_
  refine Z_iconst (n := 1) dL_law_729 ?_
  refine Z_iadd (c := i + 1) dL_law_730 rfl ?_
  refine L_sldz (i := i + 1) dL_law_731 (by omega) (by omega) hL ?_
  refine J_sload_n dL_law_732 rfl rfl ?_
  refine J_iload_n dL_law_733 rfl rfl ?_
  refine Z_iconst (n := 2) dL_law_734 ?_
  refine Z_iadd (c := i + 2) dL_law_735 rfl ?_
  refine L_sldz (i := i + 2) dL_law_736 (by omega) (by omega) hL ?_
  obtain ⟨⟨fs1, ho1⟩, hp0, hp1⟩ := hI.obj
  obtain ⟨S, Po, hS, hJ, hQ⟩ := C_parted (l := l) (G := G) (sx_zr xs (i + 1)) (sx_zr xs (i + 2)) hc hI
  refine J_callV (st := []) dL_law_737 cv_L_90 hJ ho1 rfl rfl (Nat.le_of_ble_eq_true rfl) ⟨(Nat.le_of_ble_eq_true rfl), (Nat.le_of_ble_eq_true rfl)⟩ ⟨(by show ck + 3 ≤ 600000; omega), (by show sk + S ≤ 7302250; omega)⟩ (fun r1 h1 q1 => ?_)
  obtain ⟨e1, ⟨ph2, hI2, hy⟩, hf2⟩ := hQ r1 h1 q1
  obtain ⟨z1, e1⟩ := e1
  subst e1
  obtain ⟨nh2, fh2⟩ := h1
  refine J_nf (nh2 := nh2) (ck2 := ck + 3) (sk2 := sk + S) (st2 := [.int (zI z1)]) rfl rfl rfl rfl ?_
  have hM2 : MI fh2 c aa := hM.frame hf2
  refine J_pop dL_law_740 rfl ?_
  refine J_aload_n dL_law_741 rfl rfl ?_
  refine J_sload_n dL_law_742 rfl rfl ?_
  refine J_iload_n dL_law_743 rfl rfl ?_
  refine Z_iconst (n := 1) dL_law_744 ?_
  refine Z_iadd (c := i + 1) dL_law_745 rfl ?_
  refine L_sldz (i := i + 1) dL_law_746 (by omega) (by omega) hL ?_
  refine J_sload_n dL_law_747 rfl rfl ?_
  refine J_iload_n dL_law_748 rfl rfl ?_
  refine Z_iconst (n := 2) dL_law_749 ?_
  refine Z_iadd (c := i + 2) dL_law_750 rfl ?_
  refine L_sldz (i := i + 2) dL_law_751 (by omega) (by omega) hL ?_
  obtain ⟨fs2, ho2⟩ := hM2.obj
  obtain ⟨Pm, hJ2, hQ2⟩ := M_parted (l := l) (G := G) (nh := nh2) (sx_zr xs (i + 1)) (sx_zr xs (i + 2)) hc hM2
  refine J_callV (st := []) dL_law_752 cv_L_93 hJ2 ho2 rfl rfl (Nat.le_of_ble_eq_true rfl) ⟨(Nat.le_of_ble_eq_true rfl), (Nat.le_of_ble_eq_true rfl)⟩ ⟨(by show ck + 3 + 0 ≤ 600000; omega), (by show sk + S + 0 ≤ 7302250; omega)⟩ (fun r2 h2 q2 => ?_)
  obtain ⟨e2, hn2, hM3, hf3⟩ := hQ2 r2 h2 q2
  obtain ⟨z2, e2⟩ := e2
  subst e2
  obtain ⟨nh3, fh3⟩ := h2
  have hn3 : nh3 = nh2 := hn2
  subst hn3
  refine J_nf (nh2 := nh3) (ck2 := ck + 3) (sk2 := sk + S) (st2 := [.int (zI z2)]) rfl rfl rfl rfl ?_
  have hI3 := hI2.frame hf3
  refine J_pop dL_law_755 rfl ?_
  refine J_goto (tgt := 1220) dL_law_756 (by decide) ?_
  exact kk _ _ _ _ _ _ hI3 hM3 (by omega) (by omega)
set_option maxHeartbeats 4000000 in
set_option maxRecDepth 100000 in
theorem law_case_19 {l : Launch} {G : jG} {b L : Nat} {xs : Nat → Int32} (hL : L ≤ 3072) {nh : Nat} {fh : Nat → Option va_E} {ck sk : Nat} {i c ph : Int} {aa : jAA} (i0 : 0 ≤ i) (i1 : i + 6 ≤ L) (hc : c ≤ 599) (c0 : 0 ≤ c) (hI : CI fh nh c ph aa) (hM : MI fh c aa) (hck : (ck : Int) ≤ 135 + 3 * c) (hsk : (sk : Int) ≤ 415506 + ph + 412 * c) (kk : ∀ (nh2 : Nat) (fh2 : Nat → Option va_E) (ck2 sk2 : Nat) (ph2 : Int) (aa2 : jAA), CI fh2 nh2 (c + 1) ph2 aa2 → MI fh2 (c + 1) aa2 → (ck2 : Int) ≤ 135 + 3 * (c + 1) → (sk2 : Int) ≤ 415506 + ph2 + 412 * (c + 1) → J l G ML_law room_1 (lE b L xs G) lQ (nh2, fh2) ck2 sk2 1220 [some (.retAddr 0), some (.ref 0), some (.ref 98), some (.int (zI i))] []) : J l G ML_law room_1 (lE b L xs G) lQ (nh, fh) ck sk 759 [some (.retAddr 0), some (.ref 0), some (.ref 98), some (.int (zI i))] [] := by
  refine J_aload_n dL_law_759 rfl rfl ?_
  refine J_sload_n dL_law_760 rfl rfl ?_
  refine J_iload_n dL_law_761 rfl rfl ?_
  refine Z_iconst (n := 1) dL_law_762 ?_
  refine Z_iadd (c := i + 1) dL_law_763 rfl ?_
  refine L_sldz (i := i + 1) dL_law_764 (by omega) (by omega) hL ?_
  refine J_sload_n dL_law_765 rfl rfl ?_
  refine J_iload_n dL_law_766 rfl rfl ?_
  refine Z_iconst (n := 2) dL_law_767 ?_
  refine Z_iadd (c := i + 2) dL_law_768 rfl ?_
  refine L_sldz (i := i + 2) dL_law_769 (by omega) (by omega) hL ?_
  refine J_sload_n dL_law_770 rfl rfl ?_
  refine J_iload_n dL_law_771 rfl rfl ?_
  refine Z_iconst (n := 3) dL_law_772 ?_
  refine Z_iadd (c := i + 3) dL_law_773 rfl ?_
  refine L_sldz (i := i + 3) dL_law_774 (by omega) (by omega) hL ?_
  obtain ⟨⟨fs1, ho1⟩, hp0, hp1⟩ := hI.obj
  obtain ⟨S, Po, hS, hJ, hQ⟩ := C_rows (l := l) (G := G) (sx_zr xs (i + 1)) (sx_zr xs (i + 2)) (sx_zr xs (i + 3)) hc hI
  refine J_callV (st := []) dL_law_775 cv_L_94 hJ ho1 rfl rfl (Nat.le_of_ble_eq_true rfl) ⟨(Nat.le_of_ble_eq_true rfl), (Nat.le_of_ble_eq_true rfl)⟩ ⟨(by show ck + 1 ≤ 600000; omega), (by show sk + S ≤ 7302250; omega)⟩ (fun r1 h1 q1 => ?_)
  obtain ⟨e1, ⟨ph2, hI2, hy⟩, hf2⟩ := hQ r1 h1 q1
  obtain ⟨z1, e1⟩ := e1
  subst e1
  obtain ⟨nh2, fh2⟩ := h1
  refine J_nf (nh2 := nh2) (ck2 := ck + 1) (sk2 := sk + S) (st2 := [.long (zL z1)]) rfl rfl rfl rfl ?_
  have hM2 : MI fh2 c aa := hM.frame hf2
  refine J_pop2_2 dL_law_778 rfl ?_
  refine J_aload_n dL_law_779 rfl rfl ?_
  refine J_sload_n dL_law_780 rfl rfl ?_
  refine J_iload_n dL_law_781 rfl rfl ?_
  refine Z_iconst (n := 1) dL_law_782 ?_
  refine Z_iadd (c := i + 1) dL_law_783 rfl ?_
  refine L_sldz (i := i + 1) dL_law_784 (by omega) (by omega) hL ?_
  refine J_sload_n dL_law_785 rfl rfl ?_
  refine J_iload_n dL_law_786 rfl rfl ?_
  refine Z_iconst (n := 2) dL_law_787 ?_
  refine Z_iadd (c := i + 2) dL_law_788 rfl ?_
  refine L_sldz (i := i + 2) dL_law_789 (by omega) (by omega) hL ?_
  refine J_sload_n dL_law_790 rfl rfl ?_
  refine J_iload_n dL_law_791 rfl rfl ?_
  refine Z_iconst (n := 3) dL_law_792 ?_
  refine Z_iadd (c := i + 3) dL_law_793 rfl ?_
  refine L_sldz (i := i + 3) dL_law_794 (by omega) (by omega) hL ?_
  obtain ⟨fs2, ho2⟩ := hM2.obj
  obtain ⟨Pm, hJ2, hQ2⟩ := M_rows (l := l) (G := G) (nh := nh2) (sx_zr xs (i + 1)) (sx_zr xs (i + 2)) (sx_zr xs (i + 3)) hc hM2
  refine J_callV (st := []) dL_law_795 cv_L_98 hJ2 ho2 rfl rfl (Nat.le_of_ble_eq_true rfl) ⟨(Nat.le_of_ble_eq_true rfl), (Nat.le_of_ble_eq_true rfl)⟩ ⟨(by show ck + 1 + 0 ≤ 600000; omega), (by show sk + S + 0 ≤ 7302250; omega)⟩ (fun r2 h2 q2 => ?_)
  obtain ⟨e2, hn2, hM3, hf3⟩ := hQ2 r2 h2 q2
  obtain ⟨z2, e2⟩ := e2
  subst e2
  obtain ⟨nh3, fh3⟩ := h2
  have hn3 : nh3 = nh2 := hn2
  subst hn3
  refine J_nf (nh2 := nh3) (ck2 := ck + 1) (sk2 := sk + S) (st2 := [.long (zL z2)]) rfl rfl rfl rfl ?_
  have hI3 := hI2.frame hf3
  refine J_pop2_2 dL_law_798 rfl ?_
  refine J_goto (tgt := 1220) dL_law_799 (by decide) ?_
  exact kk _ _ _ _ _ _ hI3 hM3 (by omega) (by omega)
set_option maxHeartbeats 4000000 in
set_option maxRecDepth 100000 in
theorem law_case_20 {l : Launch} {G : jG} {b L : Nat} {xs : Nat → Int32} (hL : L ≤ 3072) {nh : Nat} {fh : Nat → Option va_E} {ck sk : Nat} {i c ph : Int} {aa : jAA} (i0 : 0 ≤ i) (i1 : i + 6 ≤ L) (hc : c ≤ 599) (c0 : 0 ≤ c) (hI : CI fh nh c ph aa) (hM : MI fh c aa) (hck : (ck : Int) ≤ 135 + 3 * c) (hsk : (sk : Int) ≤ 415506 + ph + 412 * c) (kk : ∀ (nh2 : Nat) (fh2 : Nat → Option va_E) (ck2 sk2 : Nat) (ph2 : Int) (aa2 : jAA), CI fh2 nh2 (c + 1) ph2 aa2 → MI fh2 (c + 1) aa2 → (ck2 : Int) ≤ 135 + 3 * (c + 1) → (sk2 : Int) ≤ 415506 + ph2 + 412 * (c + 1) → J l G ML_law room_1 (lE b L xs G) lQ (nh2, fh2) ck2 sk2 1220 [some (.retAddr 0), some (.ref 0), some (.ref 98), some (.int (zI i))] []) : J l G ML_law room_1 (lE b L xs G) lQ (nh, fh) ck sk 802 [some (.retAddr 0), some (.ref 0), some (.ref 98), some (.int (zI i))] [] := by
  refine J_aload_n dL_law_802 rfl rfl ?_
  refine J_sload_n dL_law_803 rfl rfl ?_
  refine J_iload_n dL_law_804 rfl rfl ?_
  refine Z_iconst (n := 1) dL_law_805 ?_
  refine Z_iadd (c := i + 1) dL_law_806 rfl ?_
  refine L_sldz (i := i + 1) dL_law_807 (by omega) (by omega) hL ?_
  obtain ⟨⟨fs1, ho1⟩, hp0, hp1⟩ := hI.obj
  obtain ⟨S, Po, hS, hJ, hQ⟩ := C_round (l := l) (G := G) (sx_zr xs (i + 1)) hc hI
  refine J_callV (st := []) dL_law_808 cv_L_99 hJ ho1 rfl rfl (Nat.le_of_ble_eq_true rfl) ⟨(Nat.le_of_ble_eq_true rfl), (Nat.le_of_ble_eq_true rfl)⟩ ⟨(by show ck + 2 ≤ 600000; omega), (by show sk + S ≤ 7302250; omega)⟩ (fun r1 h1 q1 => ?_)
  obtain ⟨e1, ⟨ph2, hI2, hy⟩, hf2⟩ := hQ r1 h1 q1
  obtain ⟨z1, e1⟩ := e1
  subst e1
  obtain ⟨nh2, fh2⟩ := h1
  refine J_nf (nh2 := nh2) (ck2 := ck + 2) (sk2 := sk + S) (st2 := [.int (zI z1)]) rfl rfl rfl rfl ?_
  have hM2 : MI fh2 c aa := hM.frame hf2
  refine J_pop dL_law_811 rfl ?_
  refine J_aload_n dL_law_812 rfl rfl ?_
  refine J_sload_n dL_law_813 rfl rfl ?_
  refine J_iload_n dL_law_814 rfl rfl ?_
  refine Z_iconst (n := 1) dL_law_815 ?_
  refine Z_iadd (c := i + 1) dL_law_816 rfl ?_
  refine L_sldz (i := i + 1) dL_law_817 (by omega) (by omega) hL ?_
  obtain ⟨fs2, ho2⟩ := hM2.obj
  obtain ⟨Pm, hJ2, hQ2⟩ := M_round (l := l) (G := G) (nh := nh2) (sx_zr xs (i + 1)) hc hM2
  refine J_callV (st := []) dL_law_818 cv_L_102 hJ2 ho2 rfl rfl (Nat.le_of_ble_eq_true rfl) ⟨(Nat.le_of_ble_eq_true rfl), (Nat.le_of_ble_eq_true rfl)⟩ ⟨(by show ck + 2 + 0 ≤ 600000; omega), (by show sk + S + 0 ≤ 7302250; omega)⟩ (fun r2 h2 q2 => ?_)
  obtain ⟨e2, hn2, hM3, hf3⟩ := hQ2 r2 h2 q2
  obtain ⟨z2, e2⟩ := e2
  subst e2
  obtain ⟨nh3, fh3⟩ := h2
  have hn3 : nh3 = nh2 := hn2
  subst hn3
  refine J_nf (nh2 := nh3) (ck2 := ck + 2) (sk2 := sk + S) (st2 := [.int (zI z2)]) rfl rfl rfl rfl ?_
  have hI3 := hI2.frame hf3
  refine J_pop dL_law_821 rfl ?_
  refine J_goto (tgt := 1220) dL_law_822 (by decide) ?_
  exact kk _ _ _ _ _ _ hI3 hM3 (by omega) (by omega)
set_option maxHeartbeats 4000000 in
set_option maxRecDepth 100000 in
theorem law_case_21 {l : Launch} {G : jG} {b L : Nat} {xs : Nat → Int32} (hL : L ≤ 3072) {nh : Nat} {fh : Nat → Option va_E} {ck sk : Nat} {i c ph : Int} {aa : jAA} (i0 : 0 ≤ i) (i1 : i + 6 ≤ L) (hc : c ≤ 599) (c0 : 0 ≤ c) (hI : CI fh nh c ph aa) (hM : MI fh c aa) (hck : (ck : Int) ≤ 135 + 3 * c) (hsk : (sk : Int) ≤ 415506 + ph + 412 * c) (kk : ∀ (nh2 : Nat) (fh2 : Nat → Option va_E) (ck2 sk2 : Nat) (ph2 : Int) (aa2 : jAA), CI fh2 nh2 (c + 1) ph2 aa2 → MI fh2 (c + 1) aa2 → (ck2 : Int) ≤ 135 + 3 * (c + 1) → (sk2 : Int) ≤ 415506 + ph2 + 412 * (c + 1) → J l G ML_law room_1 (lE b L xs G) lQ (nh2, fh2) ck2 sk2 1220 [some (.retAddr 0), some (.ref 0), some (.ref 98), some (.int (zI i))] []) : J l G ML_law room_1 (lE b L xs G) lQ (nh, fh) ck sk 825 [some (.retAddr 0), some (.ref 0), some (.ref 98), some (.int (zI i))] [] := by
  refine J_aload_n dL_law_825 rfl rfl ?_
  refine J_sload_n dL_law_826 rfl rfl ?_
  refine J_iload_n dL_law_827 rfl rfl ?_
  refine Z_iconst (n := 1) dL_law_828 ?_
  refine Z_iadd (c := i + 1) dL_law_829 rfl ?_
  refine L_sldz (i := i + 1) dL_law_830 (by omega) (by omega) hL ?_
  refine J_sload_n dL_law_831 rfl rfl ?_
  refine J_iload_n dL_law_832 rfl rfl ?_
  refine Z_iconst (n := 2) dL_law_833 ?_
  refine Z_iadd (c := i + 2) dL_law_834 rfl ?_
  refine L_sldz (i := i + 2) dL_law_835 (by omega) (by omega) hL ?_
  obtain ⟨⟨fs1, ho1⟩, hp0, hp1⟩ := hI.obj
  obtain ⟨S, Po, hS, hJ, hQ⟩ := C_swapIf (l := l) (G := G) (sx_zr xs (i + 1)) (sx_zr xs (i + 2)) hc hI
  refine J_callV (st := []) dL_law_836 cv_L_103 hJ ho1 rfl rfl (Nat.le_of_ble_eq_true rfl) ⟨(Nat.le_of_ble_eq_true rfl), (Nat.le_of_ble_eq_true rfl)⟩ ⟨(by show ck + 0 ≤ 600000; omega), (by show sk + S ≤ 7302250; omega)⟩ (fun r1 h1 q1 => ?_)
  obtain ⟨e1, ⟨ph2, hI2, hy⟩, hf2⟩ := hQ r1 h1 q1
  subst e1
  obtain ⟨nh2, fh2⟩ := h1
  refine J_nf (nh2 := nh2) (ck2 := ck + 0) (sk2 := sk + S) (st2 := [.int (zI (swR (sx xs (i + 1)) (sx xs (i + 2)) aa.1))]) rfl rfl rfl rfl ?_
  have hM2 : MI fh2 c aa := hM.frame hf2
  refine J_pop dL_law_839 rfl ?_
  refine J_aload_n dL_law_840 rfl rfl ?_
  refine J_sload_n dL_law_841 rfl rfl ?_
  refine J_iload_n dL_law_842 rfl rfl ?_
  refine Z_iconst (n := 1) dL_law_843 ?_
  refine Z_iadd (c := i + 1) dL_law_844 rfl ?_
  refine L_sldz (i := i + 1) dL_law_845 (by omega) (by omega) hL ?_
  refine J_sload_n dL_law_846 rfl rfl ?_
  refine J_iload_n dL_law_847 rfl rfl ?_
  refine Z_iconst (n := 2) dL_law_848 ?_
  refine Z_iadd (c := i + 2) dL_law_849 rfl ?_
  refine L_sldz (i := i + 2) dL_law_850 (by omega) (by omega) hL ?_
  obtain ⟨fs2, ho2⟩ := hM2.obj
  obtain ⟨Pm, hJ2, hQ2⟩ := M_swapIf (l := l) (G := G) (nh := nh2) (sx_zr xs (i + 1)) (sx_zr xs (i + 2)) hc hM2
  refine J_callV (st := []) dL_law_851 cv_L_106 hJ2 ho2 rfl rfl (Nat.le_of_ble_eq_true rfl) ⟨(Nat.le_of_ble_eq_true rfl), (Nat.le_of_ble_eq_true rfl)⟩ ⟨(by show ck + 0 + 0 ≤ 600000; omega), (by show sk + S + 0 ≤ 7302250; omega)⟩ (fun r2 h2 q2 => ?_)
  obtain ⟨e2, hn2, hM3, hf3⟩ := hQ2 r2 h2 q2
  subst e2
  obtain ⟨nh3, fh3⟩ := h2
  have hn3 : nh3 = nh2 := hn2
  subst hn3
  refine J_nf (nh2 := nh3) (ck2 := ck + 0) (sk2 := sk + S) (st2 := [.int (zI (swR (sx xs (i + 1)) (sx xs (i + 2)) aa.1))]) rfl rfl rfl rfl ?_
  have hI3 := hI2.frame hf3
  refine J_pop dL_law_854 rfl ?_
  refine J_goto (tgt := 1220) dL_law_855 (by decide) ?_
  exact kk _ _ _ _ _ _ hI3 hM3 (by omega) (by omega)
set_option maxHeartbeats 4000000 in
set_option maxRecDepth 100000 in
theorem law_case_22 {l : Launch} {G : jG} {b L : Nat} {xs : Nat → Int32} (hL : L ≤ 3072) {nh : Nat} {fh : Nat → Option va_E} {ck sk : Nat} {i c ph : Int} {aa : jAA} (i0 : 0 ≤ i) (i1 : i + 6 ≤ L) (hc : c ≤ 599) (c0 : 0 ≤ c) (hI : CI fh nh c ph aa) (hM : MI fh c aa) (hck : (ck : Int) ≤ 135 + 3 * c) (hsk : (sk : Int) ≤ 415506 + ph + 412 * c) (kk : ∀ (nh2 : Nat) (fh2 : Nat → Option va_E) (ck2 sk2 : Nat) (ph2 : Int) (aa2 : jAA), CI fh2 nh2 (c + 1) ph2 aa2 → MI fh2 (c + 1) aa2 → (ck2 : Int) ≤ 135 + 3 * (c + 1) → (sk2 : Int) ≤ 415506 + ph2 + 412 * (c + 1) → J l G ML_law room_1 (lE b L xs G) lQ (nh2, fh2) ck2 sk2 1220 [some (.retAddr 0), some (.ref 0), some (.ref 98), some (.int (zI i))] []) : J l G ML_law room_1 (lE b L xs G) lQ (nh, fh) ck sk 858 [some (.retAddr 0), some (.ref 0), some (.ref 98), some (.int (zI i))] [] := by
  refine J_aload_n dL_law_858 rfl rfl ?_
  refine J_sload_n dL_law_859 rfl rfl ?_
  refine J_iload_n dL_law_860 rfl rfl ?_
  refine Z_iconst (n := 1) dL_law_861 ?_
  refine Z_iadd (c := i + 1) dL_law_862 rfl ?_
  refine L_sldz (i := i + 1) dL_law_863 (by omega) (by omega) hL ?_
  obtain ⟨⟨fs1, ho1⟩, hp0, hp1⟩ := hI.obj
  obtain ⟨S, Po, hS, hJ, hQ⟩ := C_keep (l := l) (G := G) (sx_zr xs (i + 1)) hc hI
  refine J_callV (st := []) dL_law_864 cv_L_107 hJ ho1 rfl rfl (Nat.le_of_ble_eq_true rfl) ⟨(Nat.le_of_ble_eq_true rfl), (Nat.le_of_ble_eq_true rfl)⟩ ⟨(by show ck + 0 ≤ 600000; omega), (by show sk + S ≤ 7302250; omega)⟩ (fun r1 h1 q1 => ?_)
  obtain ⟨e1, ⟨ph2, hI2, hy⟩, hf2⟩ := hQ r1 h1 q1
  subst e1
  obtain ⟨nh2, fh2⟩ := h1
  refine J_nf (nh2 := nh2) (ck2 := ck + 0) (sk2 := sk + S) (st2 := [.int (zI (kpR (sx xs (i + 1)) aa.1))]) rfl rfl rfl rfl ?_
  have hM2 : MI fh2 c aa := hM.frame hf2
  refine J_pop dL_law_867 rfl ?_
  refine J_aload_n dL_law_868 rfl rfl ?_
  refine J_sload_n dL_law_869 rfl rfl ?_
  refine J_iload_n dL_law_870 rfl rfl ?_
  refine Z_iconst (n := 1) dL_law_871 ?_
  refine Z_iadd (c := i + 1) dL_law_872 rfl ?_
  refine L_sldz (i := i + 1) dL_law_873 (by omega) (by omega) hL ?_
  obtain ⟨fs2, ho2⟩ := hM2.obj
  obtain ⟨Pm, hJ2, hQ2⟩ := M_keep (l := l) (G := G) (nh := nh2) (sx_zr xs (i + 1)) hc hM2
  refine J_callV (st := []) dL_law_874 cv_L_110 hJ2 ho2 rfl rfl (Nat.le_of_ble_eq_true rfl) ⟨(Nat.le_of_ble_eq_true rfl), (Nat.le_of_ble_eq_true rfl)⟩ ⟨(by show ck + 0 + 0 ≤ 600000; omega), (by show sk + S + 0 ≤ 7302250; omega)⟩ (fun r2 h2 q2 => ?_)
  obtain ⟨e2, hn2, hM3, hf3⟩ := hQ2 r2 h2 q2
  subst e2
  obtain ⟨nh3, fh3⟩ := h2
  have hn3 : nh3 = nh2 := hn2
  subst hn3
  refine J_nf (nh2 := nh3) (ck2 := ck + 0) (sk2 := sk + S) (st2 := [.int (zI (kpR (sx xs (i + 1)) aa.1))]) rfl rfl rfl rfl ?_
  have hI3 := hI2.frame hf3
  refine J_pop dL_law_877 rfl ?_
  refine J_goto (tgt := 1220) dL_law_878 (by decide) ?_
  exact kk _ _ _ _ _ _ hI3 hM3 (by omega) (by omega)
set_option maxHeartbeats 4000000 in
set_option maxRecDepth 100000 in
theorem law_case_23 {l : Launch} {G : jG} {b L : Nat} {xs : Nat → Int32} (hL : L ≤ 3072) {nh : Nat} {fh : Nat → Option va_E} {ck sk : Nat} {i c ph : Int} {aa : jAA} (i0 : 0 ≤ i) (i1 : i + 6 ≤ L) (hc : c ≤ 599) (c0 : 0 ≤ c) (hI : CI fh nh c ph aa) (hM : MI fh c aa) (hck : (ck : Int) ≤ 135 + 3 * c) (hsk : (sk : Int) ≤ 415506 + ph + 412 * c) (kk : ∀ (nh2 : Nat) (fh2 : Nat → Option va_E) (ck2 sk2 : Nat) (ph2 : Int) (aa2 : jAA), CI fh2 nh2 (c + 1) ph2 aa2 → MI fh2 (c + 1) aa2 → (ck2 : Int) ≤ 135 + 3 * (c + 1) → (sk2 : Int) ≤ 415506 + ph2 + 412 * (c + 1) → J l G ML_law room_1 (lE b L xs G) lQ (nh2, fh2) ck2 sk2 1220 [some (.retAddr 0), some (.ref 0), some (.ref 98), some (.int (zI i))] []) : J l G ML_law room_1 (lE b L xs G) lQ (nh, fh) ck sk 881 [some (.retAddr 0), some (.ref 0), some (.ref 98), some (.int (zI i))] [] := by
  refine J_aload_n dL_law_881 rfl rfl ?_
  refine J_sload_n dL_law_882 rfl rfl ?_
  refine J_iload_n dL_law_883 rfl rfl ?_
  refine Z_iconst (n := 1) dL_law_884 ?_
  refine Z_iadd (c := i + 1) dL_law_885 rfl ?_
  refine L_sldz (i := i + 1) dL_law_886 (by omega) (by omega) hL ?_
  obtain ⟨⟨fs1, ho1⟩, hp0, hp1⟩ := hI.obj
  obtain ⟨S, Po, hS, hJ, hQ⟩ := C_sorts (l := l) (G := G) (sx_zr xs (i + 1)) hc hI hM.vx
  refine J_callV (st := []) dL_law_887 cv_L_111 hJ ho1 rfl rfl (Nat.le_of_ble_eq_true rfl) ⟨(Nat.le_of_ble_eq_true rfl), (Nat.le_of_ble_eq_true rfl)⟩ ⟨(by show ck + 0 ≤ 600000; omega), (by show sk + S ≤ 7302250; omega)⟩ (fun r1 h1 q1 => ?_)
  obtain ⟨e1, ⟨ph2, hI2, hy⟩, hf2⟩ := hQ r1 h1 q1
  subst e1
  obtain ⟨nh2, fh2⟩ := h1
  refine J_nf (nh2 := nh2) (ck2 := ck + 0) (sk2 := sk + S) (st2 := [.int (zI (soR (sx xs (i + 1)) aa.1))]) rfl rfl rfl rfl ?_
  have hM2 : MI fh2 c aa := hM.frame hf2
  refine J_pop dL_law_890 rfl ?_
  refine J_aload_n dL_law_891 rfl rfl ?_
  refine J_sload_n dL_law_892 rfl rfl ?_
  refine J_iload_n dL_law_893 rfl rfl ?_
  refine Z_iconst (n := 1) dL_law_894 ?_
  refine Z_iadd (c := i + 1) dL_law_895 rfl ?_
  refine L_sldz (i := i + 1) dL_law_896 (by omega) (by omega) hL ?_
  obtain ⟨fs2, ho2⟩ := hM2.obj
  obtain ⟨Pm, hJ2, hQ2⟩ := M_sorts (l := l) (G := G) (nh := nh2) (sx_zr xs (i + 1)) hc hM2
  refine J_callV (st := []) dL_law_897 cv_L_114 hJ2 ho2 rfl rfl (Nat.le_of_ble_eq_true rfl) ⟨(Nat.le_of_ble_eq_true rfl), (Nat.le_of_ble_eq_true rfl)⟩ ⟨(by show ck + 0 + 0 ≤ 600000; omega), (by show sk + S + 0 ≤ 7302250; omega)⟩ (fun r2 h2 q2 => ?_)
  obtain ⟨e2, hn2, hM3, hf3⟩ := hQ2 r2 h2 q2
  subst e2
  obtain ⟨nh3, fh3⟩ := h2
  have hn3 : nh3 = nh2 := hn2
  subst hn3
  refine J_nf (nh2 := nh3) (ck2 := ck + 0) (sk2 := sk + S) (st2 := [.int (zI (soR (sx xs (i + 1)) aa.1))]) rfl rfl rfl rfl ?_
  have hI3 := hI2.frame hf3
  refine J_pop dL_law_900 rfl ?_
  refine J_goto (tgt := 1220) dL_law_901 (by decide) ?_
  exact kk _ _ _ _ _ _ hI3 hM3 (by omega) (by omega)
set_option maxHeartbeats 4000000 in
set_option maxRecDepth 100000 in
theorem law_case_24 {l : Launch} {G : jG} {b L : Nat} {xs : Nat → Int32} (hL : L ≤ 3072) {nh : Nat} {fh : Nat → Option va_E} {ck sk : Nat} {i c ph : Int} {aa : jAA} (i0 : 0 ≤ i) (i1 : i + 6 ≤ L) (hc : c ≤ 599) (c0 : 0 ≤ c) (hI : CI fh nh c ph aa) (hM : MI fh c aa) (hck : (ck : Int) ≤ 135 + 3 * c) (hsk : (sk : Int) ≤ 415506 + ph + 412 * c) (kk : ∀ (nh2 : Nat) (fh2 : Nat → Option va_E) (ck2 sk2 : Nat) (ph2 : Int) (aa2 : jAA), CI fh2 nh2 (c + 1) ph2 aa2 → MI fh2 (c + 1) aa2 → (ck2 : Int) ≤ 135 + 3 * (c + 1) → (sk2 : Int) ≤ 415506 + ph2 + 412 * (c + 1) → J l G ML_law room_1 (lE b L xs G) lQ (nh2, fh2) ck2 sk2 1220 [some (.retAddr 0), some (.ref 0), some (.ref 98), some (.int (zI i))] []) : J l G ML_law room_1 (lE b L xs G) lQ (nh, fh) ck sk 904 [some (.retAddr 0), some (.ref 0), some (.ref 98), some (.int (zI i))] [] := by
  refine J_aload_n dL_law_904 rfl rfl ?_
  refine J_sload_n dL_law_905 rfl rfl ?_
  refine J_iload_n dL_law_906 rfl rfl ?_
  refine Z_iconst (n := 1) dL_law_907 ?_
  refine Z_iadd (c := i + 1) dL_law_908 rfl ?_
  refine L_sldz (i := i + 1) dL_law_909 (by omega) (by omega) hL ?_
  obtain ⟨⟨fs1, ho1⟩, hp0, hp1⟩ := hI.obj
  obtain ⟨S, Po, hS, hJ, hQ⟩ := C_sorted (l := l) (G := G) (sx_zr xs (i + 1)) hc hI hM.vx
  refine J_callV (st := []) dL_law_910 cv_L_115 hJ ho1 rfl rfl (Nat.le_of_ble_eq_true rfl) ⟨(Nat.le_of_ble_eq_true rfl), (Nat.le_of_ble_eq_true rfl)⟩ ⟨(by show ck + 0 ≤ 600000; omega), (by show sk + S ≤ 7302250; omega)⟩ (fun r1 h1 q1 => ?_)
  obtain ⟨e1, ⟨ph2, hI2, hy⟩, hf2⟩ := hQ r1 h1 q1
  subst e1
  obtain ⟨nh2, fh2⟩ := h1
  refine J_nf (nh2 := nh2) (ck2 := ck + 0) (sk2 := sk + S) (st2 := [.int (zI (sdR (sx xs (i + 1)) aa.1))]) rfl rfl rfl rfl ?_
  have hM2 : MI fh2 c aa := hM.frame hf2
  refine J_pop dL_law_913 rfl ?_
  refine J_aload_n dL_law_914 rfl rfl ?_
  refine J_sload_n dL_law_915 rfl rfl ?_
  refine J_iload_n dL_law_916 rfl rfl ?_
  refine Z_iconst (n := 1) dL_law_917 ?_
  refine Z_iadd (c := i + 1) dL_law_918 rfl ?_
  refine L_sldz (i := i + 1) dL_law_919 (by omega) (by omega) hL ?_
  obtain ⟨fs2, ho2⟩ := hM2.obj
  obtain ⟨Pm, hJ2, hQ2⟩ := M_sorted (l := l) (G := G) (nh := nh2) (sx_zr xs (i + 1)) hc hM2
  refine J_callV (st := []) dL_law_920 cv_L_118 hJ2 ho2 rfl rfl (Nat.le_of_ble_eq_true rfl) ⟨(Nat.le_of_ble_eq_true rfl), (Nat.le_of_ble_eq_true rfl)⟩ ⟨(by show ck + 0 + 0 ≤ 600000; omega), (by show sk + S + 0 ≤ 7302250; omega)⟩ (fun r2 h2 q2 => ?_)
  obtain ⟨e2, hn2, hM3, hf3⟩ := hQ2 r2 h2 q2
  subst e2
  obtain ⟨nh3, fh3⟩ := h2
  have hn3 : nh3 = nh2 := hn2
  subst hn3
  refine J_nf (nh2 := nh3) (ck2 := ck + 0) (sk2 := sk + S) (st2 := [.int (zI (sdR (sx xs (i + 1)) aa.1))]) rfl rfl rfl rfl ?_
  have hI3 := hI2.frame hf3
  refine J_pop dL_law_923 rfl ?_
  refine J_goto (tgt := 1220) dL_law_924 (by decide) ?_
  exact kk _ _ _ _ _ _ hI3 hM3 (by omega) (by omega)
set_option maxHeartbeats 4000000 in
set_option maxRecDepth 100000 in
theorem law_case_25 {l : Launch} {G : jG} {b L : Nat} {xs : Nat → Int32} (hL : L ≤ 3072) {nh : Nat} {fh : Nat → Option va_E} {ck sk : Nat} {i c ph : Int} {aa : jAA} (i0 : 0 ≤ i) (i1 : i + 6 ≤ L) (hc : c ≤ 599) (c0 : 0 ≤ c) (hI : CI fh nh c ph aa) (hM : MI fh c aa) (hck : (ck : Int) ≤ 135 + 3 * c) (hsk : (sk : Int) ≤ 415506 + ph + 412 * c) (kk : ∀ (nh2 : Nat) (fh2 : Nat → Option va_E) (ck2 sk2 : Nat) (ph2 : Int) (aa2 : jAA), CI fh2 nh2 (c + 1) ph2 aa2 → MI fh2 (c + 1) aa2 → (ck2 : Int) ≤ 135 + 3 * (c + 1) → (sk2 : Int) ≤ 415506 + ph2 + 412 * (c + 1) → J l G ML_law room_1 (lE b L xs G) lQ (nh2, fh2) ck2 sk2 1220 [some (.retAddr 0), some (.ref 0), some (.ref 98), some (.int (zI i))] []) : J l G ML_law room_1 (lE b L xs G) lQ (nh, fh) ck sk 927 [some (.retAddr 0), some (.ref 0), some (.ref 98), some (.int (zI i))] [] := by
  refine J_aload_n dL_law_927 rfl rfl ?_
  refine J_sload_n dL_law_928 rfl rfl ?_
  refine J_iload_n dL_law_929 rfl rfl ?_
  refine Z_iconst (n := 1) dL_law_930 ?_
  refine Z_iadd (c := i + 1) dL_law_931 rfl ?_
  refine L_sldz (i := i + 1) dL_law_932 (by omega) (by omega) hL ?_
  refine J_sload_n dL_law_933 rfl rfl ?_
  refine J_iload_n dL_law_934 rfl rfl ?_
  refine Z_iconst (n := 2) dL_law_935 ?_
  refine Z_iadd (c := i + 2) dL_law_936 rfl ?_
  refine L_sldz (i := i + 2) dL_law_937 (by omega) (by omega) hL ?_
  obtain ⟨⟨fs1, ho1⟩, hp0, hp1⟩ := hI.obj
  obtain ⟨S, Po, hS, hJ, hQ⟩ := C_clue (l := l) (G := G) (sx_zr xs (i + 1)) (sx_zr xs (i + 2)) hc hI
  refine J_callV (st := []) dL_law_938 cv_L_119 hJ ho1 rfl rfl (Nat.le_of_ble_eq_true rfl) ⟨(Nat.le_of_ble_eq_true rfl), (Nat.le_of_ble_eq_true rfl)⟩ ⟨(by show ck + 0 ≤ 600000; omega), (by show sk + S ≤ 7302250; omega)⟩ (fun r1 h1 q1 => ?_)
  obtain ⟨e1, ⟨ph2, hI2, hy⟩, hf2⟩ := hQ r1 h1 q1
  subst e1
  obtain ⟨nh2, fh2⟩ := h1
  refine J_nf (nh2 := nh2) (ck2 := ck + 0) (sk2 := sk + S) (st2 := [.int (zI (clR (sx xs (i + 1)) (sx xs (i + 2)) aa.1))]) rfl rfl rfl rfl ?_
  have hM2 : MI fh2 c aa := hM.frame hf2
  refine J_pop dL_law_941 rfl ?_
  refine J_aload_n dL_law_942 rfl rfl ?_
  refine J_sload_n dL_law_943 rfl rfl ?_
  refine J_iload_n dL_law_944 rfl rfl ?_
  refine Z_iconst (n := 1) dL_law_945 ?_
  refine Z_iadd (c := i + 1) dL_law_946 rfl ?_
  refine L_sldz (i := i + 1) dL_law_947 (by omega) (by omega) hL ?_
  refine J_sload_n dL_law_948 rfl rfl ?_
  refine J_iload_n dL_law_949 rfl rfl ?_
  refine Z_iconst (n := 2) dL_law_950 ?_
  refine Z_iadd (c := i + 2) dL_law_951 rfl ?_
  refine L_sldz (i := i + 2) dL_law_952 (by omega) (by omega) hL ?_
  obtain ⟨fs2, ho2⟩ := hM2.obj
  obtain ⟨Pm, hJ2, hQ2⟩ := M_clue (l := l) (G := G) (nh := nh2) (sx_zr xs (i + 1)) (sx_zr xs (i + 2)) hc hM2
  refine J_callV (st := []) dL_law_953 cv_L_122 hJ2 ho2 rfl rfl (Nat.le_of_ble_eq_true rfl) ⟨(Nat.le_of_ble_eq_true rfl), (Nat.le_of_ble_eq_true rfl)⟩ ⟨(by show ck + 0 + 0 ≤ 600000; omega), (by show sk + S + 0 ≤ 7302250; omega)⟩ (fun r2 h2 q2 => ?_)
  obtain ⟨e2, hn2, hM3, hf3⟩ := hQ2 r2 h2 q2
  subst e2
  obtain ⟨nh3, fh3⟩ := h2
  have hn3 : nh3 = nh2 := hn2
  subst hn3
  refine J_nf (nh2 := nh3) (ck2 := ck + 0) (sk2 := sk + S) (st2 := [.int (zI (clR (sx xs (i + 1)) (sx xs (i + 2)) aa.1))]) rfl rfl rfl rfl ?_
  have hI3 := hI2.frame hf3
  refine J_pop dL_law_956 rfl ?_
  refine J_goto (tgt := 1220) dL_law_957 (by decide) ?_
  exact kk _ _ _ _ _ _ hI3 hM3 (by omega) (by omega)
set_option maxHeartbeats 4000000 in
set_option maxRecDepth 100000 in
theorem law_case_26 {l : Launch} {G : jG} {b L : Nat} {xs : Nat → Int32} (hL : L ≤ 3072) {nh : Nat} {fh : Nat → Option va_E} {ck sk : Nat} {i c ph : Int} {aa : jAA} (i0 : 0 ≤ i) (i1 : i + 6 ≤ L) (hc : c ≤ 599) (c0 : 0 ≤ c) (hI : CI fh nh c ph aa) (hM : MI fh c aa) (hck : (ck : Int) ≤ 135 + 3 * c) (hsk : (sk : Int) ≤ 415506 + ph + 412 * c) (kk : ∀ (nh2 : Nat) (fh2 : Nat → Option va_E) (ck2 sk2 : Nat) (ph2 : Int) (aa2 : jAA), CI fh2 nh2 (c + 1) ph2 aa2 → MI fh2 (c + 1) aa2 → (ck2 : Int) ≤ 135 + 3 * (c + 1) → (sk2 : Int) ≤ 415506 + ph2 + 412 * (c + 1) → J l G ML_law room_1 (lE b L xs G) lQ (nh2, fh2) ck2 sk2 1220 [some (.retAddr 0), some (.ref 0), some (.ref 98), some (.int (zI i))] []) : J l G ML_law room_1 (lE b L xs G) lQ (nh, fh) ck sk 960 [some (.retAddr 0), some (.ref 0), some (.ref 98), some (.int (zI i))] [] := by
  refine J_aload_n dL_law_960 rfl rfl ?_
  obtain ⟨⟨fs1, ho1⟩, hp0, hp1⟩ := hI.obj
  obtain ⟨S, Po, hS, hJ, hQ⟩ := C_forget (l := l) (G := G)  hc hI
  refine J_callV (st := []) dL_law_961 cv_L_123 hJ ho1 rfl rfl (Nat.le_of_ble_eq_true rfl) ⟨(Nat.le_of_ble_eq_true rfl), (Nat.le_of_ble_eq_true rfl)⟩ ⟨(by show ck + 0 ≤ 600000; omega), (by show sk + S ≤ 7302250; omega)⟩ (fun r1 h1 q1 => ?_)
  obtain ⟨e1, ⟨ph2, hI2, hy⟩, hf2⟩ := hQ r1 h1 q1
  subst e1
  obtain ⟨nh2, fh2⟩ := h1
  refine J_nf (nh2 := nh2) (ck2 := ck + 0) (sk2 := sk + S) (st2 := [.int (zI (aa.1 61))]) rfl rfl rfl rfl ?_
  have hM2 : MI fh2 c aa := hM.frame hf2
  refine J_pop dL_law_964 rfl ?_
  refine J_aload_n dL_law_965 rfl rfl ?_
  obtain ⟨fs2, ho2⟩ := hM2.obj
  obtain ⟨Pm, hJ2, hQ2⟩ := M_forget (l := l) (G := G) (nh := nh2)  hc hM2
  refine J_callV (st := []) dL_law_966 cv_L_126 hJ2 ho2 rfl rfl (Nat.le_of_ble_eq_true rfl) ⟨(Nat.le_of_ble_eq_true rfl), (Nat.le_of_ble_eq_true rfl)⟩ ⟨(by show ck + 0 + 0 ≤ 600000; omega), (by show sk + S + 0 ≤ 7302250; omega)⟩ (fun r2 h2 q2 => ?_)
  obtain ⟨e2, hn2, hM3, hf3⟩ := hQ2 r2 h2 q2
  subst e2
  obtain ⟨nh3, fh3⟩ := h2
  have hn3 : nh3 = nh2 := hn2
  subst hn3
  refine J_nf (nh2 := nh3) (ck2 := ck + 0) (sk2 := sk + S) (st2 := [.int (zI (aa.1 61))]) rfl rfl rfl rfl ?_
  have hI3 := hI2.frame hf3
  refine J_pop dL_law_969 rfl ?_
  refine J_goto (tgt := 1220) dL_law_970 (by decide) ?_
  exact kk _ _ _ _ _ _ hI3 hM3 (by omega) (by omega)
set_option maxHeartbeats 4000000 in
set_option maxRecDepth 100000 in
theorem law_case_27 {l : Launch} {G : jG} {b L : Nat} {xs : Nat → Int32} (hL : L ≤ 3072) {nh : Nat} {fh : Nat → Option va_E} {ck sk : Nat} {i c ph : Int} {aa : jAA} (i0 : 0 ≤ i) (i1 : i + 6 ≤ L) (hc : c ≤ 599) (c0 : 0 ≤ c) (hI : CI fh nh c ph aa) (hM : MI fh c aa) (hck : (ck : Int) ≤ 135 + 3 * c) (hsk : (sk : Int) ≤ 415506 + ph + 412 * c) (kk : ∀ (nh2 : Nat) (fh2 : Nat → Option va_E) (ck2 sk2 : Nat) (ph2 : Int) (aa2 : jAA), CI fh2 nh2 (c + 1) ph2 aa2 → MI fh2 (c + 1) aa2 → (ck2 : Int) ≤ 135 + 3 * (c + 1) → (sk2 : Int) ≤ 415506 + ph2 + 412 * (c + 1) → J l G ML_law room_1 (lE b L xs G) lQ (nh2, fh2) ck2 sk2 1220 [some (.retAddr 0), some (.ref 0), some (.ref 98), some (.int (zI i))] []) : J l G ML_law room_1 (lE b L xs G) lQ (nh, fh) ck sk 973 [some (.retAddr 0), some (.ref 0), some (.ref 98), some (.int (zI i))] [] := by
  refine J_aload_n dL_law_973 rfl rfl ?_
  refine J_sload_n dL_law_974 rfl rfl ?_
  refine J_iload_n dL_law_975 rfl rfl ?_
  refine Z_iconst (n := 1) dL_law_976 ?_
  refine Z_iadd (c := i + 1) dL_law_977 rfl ?_
  refine L_sldz (i := i + 1) dL_law_978 (by omega) (by omega) hL ?_
  obtain ⟨⟨fs1, ho1⟩, hp0, hp1⟩ := hI.obj
  obtain ⟨S, Po, hS, hJ, hQ⟩ := C_fits (l := l) (G := G) (sx_zr xs (i + 1)) hc hI
  refine J_callV (st := []) dL_law_979 cv_L_127 hJ ho1 rfl rfl (Nat.le_of_ble_eq_true rfl) ⟨(Nat.le_of_ble_eq_true rfl), (Nat.le_of_ble_eq_true rfl)⟩ ⟨(by show ck + 1 ≤ 600000; omega), (by show sk + S ≤ 7302250; omega)⟩ (fun r1 h1 q1 => ?_)
  obtain ⟨e1, ⟨ph2, hI2, hy⟩, hf2⟩ := hQ r1 h1 q1
  obtain ⟨z1, e1⟩ := e1
  subst e1
  obtain ⟨nh2, fh2⟩ := h1
  refine J_nf (nh2 := nh2) (ck2 := ck + 1) (sk2 := sk + S) (st2 := [.int (zI z1)]) rfl rfl rfl rfl ?_
  have hM2 : MI fh2 c aa := hM.frame hf2
  refine J_pop dL_law_982 rfl ?_
  refine J_aload_n dL_law_983 rfl rfl ?_
  refine J_sload_n dL_law_984 rfl rfl ?_
  refine J_iload_n dL_law_985 rfl rfl ?_
  refine Z_iconst (n := 1) dL_law_986 ?_
  refine Z_iadd (c := i + 1) dL_law_987 rfl ?_
  refine L_sldz (i := i + 1) dL_law_988 (by omega) (by omega) hL ?_
  obtain ⟨fs2, ho2⟩ := hM2.obj
  obtain ⟨Pm, hJ2, hQ2⟩ := M_fits (l := l) (G := G) (nh := nh2) (sx_zr xs (i + 1)) hc hM2
  refine J_callV (st := []) dL_law_989 cv_L_130 hJ2 ho2 rfl rfl (Nat.le_of_ble_eq_true rfl) ⟨(Nat.le_of_ble_eq_true rfl), (Nat.le_of_ble_eq_true rfl)⟩ ⟨(by show ck + 1 + 0 ≤ 600000; omega), (by show sk + S + 0 ≤ 7302250; omega)⟩ (fun r2 h2 q2 => ?_)
  obtain ⟨e2, hn2, hM3, hf3⟩ := hQ2 r2 h2 q2
  obtain ⟨z2, e2⟩ := e2
  subst e2
  obtain ⟨nh3, fh3⟩ := h2
  have hn3 : nh3 = nh2 := hn2
  subst hn3
  refine J_nf (nh2 := nh3) (ck2 := ck + 1) (sk2 := sk + S) (st2 := [.int (zI z2)]) rfl rfl rfl rfl ?_
  have hI3 := hI2.frame hf3
  refine J_pop dL_law_992 rfl ?_
  refine J_goto (tgt := 1220) dL_law_993 (by decide) ?_
  exact kk _ _ _ _ _ _ hI3 hM3 (by omega) (by omega)
set_option maxHeartbeats 4000000 in
set_option maxRecDepth 100000 in
theorem law_case_28 {l : Launch} {G : jG} {b L : Nat} {xs : Nat → Int32} (hL : L ≤ 3072) {nh : Nat} {fh : Nat → Option va_E} {ck sk : Nat} {i c ph : Int} {aa : jAA} (i0 : 0 ≤ i) (i1 : i + 6 ≤ L) (hc : c ≤ 599) (c0 : 0 ≤ c) (hI : CI fh nh c ph aa) (hM : MI fh c aa) (hck : (ck : Int) ≤ 135 + 3 * c) (hsk : (sk : Int) ≤ 415506 + ph + 412 * c) (kk : ∀ (nh2 : Nat) (fh2 : Nat → Option va_E) (ck2 sk2 : Nat) (ph2 : Int) (aa2 : jAA), CI fh2 nh2 (c + 1) ph2 aa2 → MI fh2 (c + 1) aa2 → (ck2 : Int) ≤ 135 + 3 * (c + 1) → (sk2 : Int) ≤ 415506 + ph2 + 412 * (c + 1) → J l G ML_law room_1 (lE b L xs G) lQ (nh2, fh2) ck2 sk2 1220 [some (.retAddr 0), some (.ref 0), some (.ref 98), some (.int (zI i))] []) : J l G ML_law room_1 (lE b L xs G) lQ (nh, fh) ck sk 996 [some (.retAddr 0), some (.ref 0), some (.ref 98), some (.int (zI i))] [] := by
  refine J_aload_n dL_law_996 rfl rfl ?_
  refine J_sload_n dL_law_997 rfl rfl ?_
  refine J_iload_n dL_law_998 rfl rfl ?_
  refine Z_iconst (n := 1) dL_law_999 ?_
  refine Z_iadd (c := i + 1) dL_law_1000 rfl ?_
  refine L_sldz (i := i + 1) dL_law_1001 (by omega) (by omega) hL ?_
  obtain ⟨⟨fs1, ho1⟩, hp0, hp1⟩ := hI.obj
  obtain ⟨S, Po, hS, hJ, hQ⟩ := C_ask (l := l) (G := G) (sx_zr xs (i + 1)) hc hI
  refine J_callV (st := []) dL_law_1002 cv_L_131 hJ ho1 rfl rfl (Nat.le_of_ble_eq_true rfl) ⟨(Nat.le_of_ble_eq_true rfl), (Nat.le_of_ble_eq_true rfl)⟩ ⟨(by show ck + 1 ≤ 600000; omega), (by show sk + S ≤ 7302250; omega)⟩ (fun r1 h1 q1 => ?_)
  obtain ⟨e1, ⟨ph2, hI2, hy⟩, hf2⟩ := hQ r1 h1 q1
  obtain ⟨z1, e1⟩ := e1
  subst e1
  obtain ⟨nh2, fh2⟩ := h1
  refine J_nf (nh2 := nh2) (ck2 := ck + 1) (sk2 := sk + S) (st2 := [.int (zI z1)]) rfl rfl rfl rfl ?_
  have hM2 : MI fh2 c aa := hM.frame hf2
  refine J_pop dL_law_1005 rfl ?_
  refine J_aload_n dL_law_1006 rfl rfl ?_
  refine J_sload_n dL_law_1007 rfl rfl ?_
  refine J_iload_n dL_law_1008 rfl rfl ?_
  refine Z_iconst (n := 1) dL_law_1009 ?_
  refine Z_iadd (c := i + 1) dL_law_1010 rfl ?_
  refine L_sldz (i := i + 1) dL_law_1011 (by omega) (by omega) hL ?_
  obtain ⟨fs2, ho2⟩ := hM2.obj
  obtain ⟨Pm, hJ2, hQ2⟩ := M_ask (l := l) (G := G) (nh := nh2) (sx_zr xs (i + 1)) hc hM2
  refine J_callV (st := []) dL_law_1012 cv_L_134 hJ2 ho2 rfl rfl (Nat.le_of_ble_eq_true rfl) ⟨(Nat.le_of_ble_eq_true rfl), (Nat.le_of_ble_eq_true rfl)⟩ ⟨(by show ck + 1 + 0 ≤ 600000; omega), (by show sk + S + 0 ≤ 7302250; omega)⟩ (fun r2 h2 q2 => ?_)
  obtain ⟨e2, hn2, hM3, hf3⟩ := hQ2 r2 h2 q2
  obtain ⟨z2, e2⟩ := e2
  subst e2
  obtain ⟨nh3, fh3⟩ := h2
  have hn3 : nh3 = nh2 := hn2
  subst hn3
  refine J_nf (nh2 := nh3) (ck2 := ck + 1) (sk2 := sk + S) (st2 := [.int (zI z2)]) rfl rfl rfl rfl ?_
  have hI3 := hI2.frame hf3
  refine J_pop dL_law_1015 rfl ?_
  refine J_goto (tgt := 1220) dL_law_1016 (by decide) ?_
  exact kk _ _ _ _ _ _ hI3 hM3 (by omega) (by omega)
set_option maxHeartbeats 4000000 in
set_option maxRecDepth 100000 in
theorem law_case_29 {l : Launch} {G : jG} {b L : Nat} {xs : Nat → Int32} (hL : L ≤ 3072) {nh : Nat} {fh : Nat → Option va_E} {ck sk : Nat} {i c ph : Int} {aa : jAA} (i0 : 0 ≤ i) (i1 : i + 6 ≤ L) (hc : c ≤ 599) (c0 : 0 ≤ c) (hI : CI fh nh c ph aa) (hM : MI fh c aa) (hck : (ck : Int) ≤ 135 + 3 * c) (hsk : (sk : Int) ≤ 415506 + ph + 412 * c) (kk : ∀ (nh2 : Nat) (fh2 : Nat → Option va_E) (ck2 sk2 : Nat) (ph2 : Int) (aa2 : jAA), CI fh2 nh2 (c + 1) ph2 aa2 → MI fh2 (c + 1) aa2 → (ck2 : Int) ≤ 135 + 3 * (c + 1) → (sk2 : Int) ≤ 415506 + ph2 + 412 * (c + 1) → J l G ML_law room_1 (lE b L xs G) lQ (nh2, fh2) ck2 sk2 1220 [some (.retAddr 0), some (.ref 0), some (.ref 98), some (.int (zI i))] []) : J l G ML_law room_1 (lE b L xs G) lQ (nh, fh) ck sk 1019 [some (.retAddr 0), some (.ref 0), some (.ref 98), some (.int (zI i))] [] := by
  refine J_aload_n dL_law_1019 rfl rfl ?_
  refine J_sload_n dL_law_1020 rfl rfl ?_
  refine J_iload_n dL_law_1021 rfl rfl ?_
  refine Z_iconst (n := 1) dL_law_1022 ?_
  refine Z_iadd (c := i + 1) dL_law_1023 rfl ?_
  refine L_sldz (i := i + 1) dL_law_1024 (by omega) (by omega) hL ?_
  refine J_sload_n dL_law_1025 rfl rfl ?_
  refine J_iload_n dL_law_1026 rfl rfl ?_
  refine Z_iconst (n := 2) dL_law_1027 ?_
  refine Z_iadd (c := i + 2) dL_law_1028 rfl ?_
  refine L_sldz (i := i + 2) dL_law_1029 (by omega) (by omega) hL ?_
  refine J_sload_n dL_law_1030 rfl rfl ?_
  refine J_iload_n dL_law_1031 rfl rfl ?_
  refine Z_iconst (n := 3) dL_law_1032 ?_
  refine Z_iadd (c := i + 3) dL_law_1033 rfl ?_
  refine L_sldz (i := i + 3) dL_law_1034 (by omega) (by omega) hL ?_
  refine J_sload_n dL_law_1035 rfl rfl ?_
  refine J_iload_n dL_law_1036 rfl rfl ?_
  refine Z_iconst (n := 4) dL_law_1037 ?_
  refine Z_iadd (c := i + 4) dL_law_1038 rfl ?_
  refine L_sldz (i := i + 4) dL_law_1039 (by omega) (by omega) hL ?_
  obtain ⟨⟨fs1, ho1⟩, hp0, hp1⟩ := hI.obj
  obtain ⟨S, Po, hS, hJ, hQ⟩ := C_post (l := l) (G := G) (sx_zr xs (i + 1)) (sx_zr xs (i + 2)) (sx_zr xs (i + 3)) (sx_zr xs (i + 4)) hc hI
  refine J_callV (st := []) dL_law_1040 cv_L_135 hJ ho1 rfl rfl (Nat.le_of_ble_eq_true rfl) ⟨(Nat.le_of_ble_eq_true rfl), (Nat.le_of_ble_eq_true rfl)⟩ ⟨(by show ck + 3 ≤ 600000; omega), (by show sk + S ≤ 7302250; omega)⟩ (fun r1 h1 q1 => ?_)
  obtain ⟨e1, ⟨ph2, hI2, hy⟩, hf2⟩ := hQ r1 h1 q1
  obtain ⟨z1, e1⟩ := e1
  subst e1
  obtain ⟨nh2, fh2⟩ := h1
  refine J_nf (nh2 := nh2) (ck2 := ck + 3) (sk2 := sk + S) (st2 := [.int (zI z1)]) rfl rfl rfl rfl ?_
  have hM2 : MI fh2 c aa := hM.frame hf2
  refine J_pop dL_law_1043 rfl ?_
  refine J_aload_n dL_law_1044 rfl rfl ?_
  refine J_sload_n dL_law_1045 rfl rfl ?_
  refine J_iload_n dL_law_1046 rfl rfl ?_
  refine Z_iconst (n := 1) dL_law_1047 ?_
  refine Z_iadd (c := i + 1) dL_law_1048 rfl ?_
  refine L_sldz (i := i + 1) dL_law_1049 (by omega) (by omega) hL ?_
  refine J_sload_n dL_law_1050 rfl rfl ?_
  refine J_iload_n dL_law_1051 rfl rfl ?_
  refine Z_iconst (n := 2) dL_law_1052 ?_
  refine Z_iadd (c := i + 2) dL_law_1053 rfl ?_
  refine L_sldz (i := i + 2) dL_law_1054 (by omega) (by omega) hL ?_
  refine J_sload_n dL_law_1055 rfl rfl ?_
  refine J_iload_n dL_law_1056 rfl rfl ?_
  refine Z_iconst (n := 3) dL_law_1057 ?_
  refine Z_iadd (c := i + 3) dL_law_1058 rfl ?_
  refine L_sldz (i := i + 3) dL_law_1059 (by omega) (by omega) hL ?_
  refine J_sload_n dL_law_1060 rfl rfl ?_
  refine J_iload_n dL_law_1061 rfl rfl ?_
  refine Z_iconst (n := 4) dL_law_1062 ?_
  refine Z_iadd (c := i + 4) dL_law_1063 rfl ?_
  refine L_sldz (i := i + 4) dL_law_1064 (by omega) (by omega) hL ?_
  obtain ⟨fs2, ho2⟩ := hM2.obj
  obtain ⟨Pm, hJ2, hQ2⟩ := M_post (l := l) (G := G) (nh := nh2) (sx_zr xs (i + 1)) (sx_zr xs (i + 2)) (sx_zr xs (i + 3)) (sx_zr xs (i + 4)) hc hM2
  refine J_callV (st := []) dL_law_1065 cv_L_139 hJ2 ho2 rfl rfl (Nat.le_of_ble_eq_true rfl) ⟨(Nat.le_of_ble_eq_true rfl), (Nat.le_of_ble_eq_true rfl)⟩ ⟨(by show ck + 3 + 0 ≤ 600000; omega), (by show sk + S + 0 ≤ 7302250; omega)⟩ (fun r2 h2 q2 => ?_)
  obtain ⟨e2, hn2, hM3, hf3⟩ := hQ2 r2 h2 q2
  obtain ⟨z2, e2⟩ := e2
  subst e2
  obtain ⟨nh3, fh3⟩ := h2
  have hn3 : nh3 = nh2 := hn2
  subst hn3
  refine J_nf (nh2 := nh3) (ck2 := ck + 3) (sk2 := sk + S) (st2 := [.int (zI z2)]) rfl rfl rfl rfl ?_
  have hI3 := hI2.frame hf3
  refine J_pop dL_law_1068 rfl ?_
  refine J_goto (tgt := 1220) dL_law_1069 (by decide) ?_
  exact kk _ _ _ _ _ _ hI3 hM3 (by omega) (by omega)
set_option maxHeartbeats 4000000 in
set_option maxRecDepth 100000 in
theorem law_case_30 {l : Launch} {G : jG} {b L : Nat} {xs : Nat → Int32} (hL : L ≤ 3072) {nh : Nat} {fh : Nat → Option va_E} {ck sk : Nat} {i c ph : Int} {aa : jAA} (i0 : 0 ≤ i) (i1 : i + 6 ≤ L) (hc : c ≤ 599) (c0 : 0 ≤ c) (hI : CI fh nh c ph aa) (hM : MI fh c aa) (hck : (ck : Int) ≤ 135 + 3 * c) (hsk : (sk : Int) ≤ 415506 + ph + 412 * c) (kk : ∀ (nh2 : Nat) (fh2 : Nat → Option va_E) (ck2 sk2 : Nat) (ph2 : Int) (aa2 : jAA), CI fh2 nh2 (c + 1) ph2 aa2 → MI fh2 (c + 1) aa2 → (ck2 : Int) ≤ 135 + 3 * (c + 1) → (sk2 : Int) ≤ 415506 + ph2 + 412 * (c + 1) → J l G ML_law room_1 (lE b L xs G) lQ (nh2, fh2) ck2 sk2 1220 [some (.retAddr 0), some (.ref 0), some (.ref 98), some (.int (zI i))] []) : J l G ML_law room_1 (lE b L xs G) lQ (nh, fh) ck sk 1072 [some (.retAddr 0), some (.ref 0), some (.ref 98), some (.int (zI i))] [] := by
  refine J_aload_n dL_law_1072 rfl rfl ?_
  refine J_sload_n dL_law_1073 rfl rfl ?_
  refine J_iload_n dL_law_1074 rfl rfl ?_
  refine Z_iconst (n := 1) dL_law_1075 ?_
  refine Z_iadd (c := i + 1) dL_law_1076 rfl ?_
  refine L_sldz (i := i + 1) dL_law_1077 (by omega) (by omega) hL ?_
  refine J_sload_n dL_law_1078 rfl rfl ?_
  refine J_iload_n dL_law_1079 rfl rfl ?_
  refine Z_iconst (n := 2) dL_law_1080 ?_
  refine Z_iadd (c := i + 2) dL_law_1081 rfl ?_
  refine L_sldz (i := i + 2) dL_law_1082 (by omega) (by omega) hL ?_
  refine J_sload_n dL_law_1083 rfl rfl ?_
  refine J_iload_n dL_law_1084 rfl rfl ?_
  refine Z_iconst (n := 3) dL_law_1085 ?_
  refine Z_iadd (c := i + 3) dL_law_1086 rfl ?_
  refine L_sldz (i := i + 3) dL_law_1087 (by omega) (by omega) hL ?_
  obtain ⟨⟨fs1, ho1⟩, hp0, hp1⟩ := hI.obj
  obtain ⟨S, Po, hS, hJ, hQ⟩ := C_drunk (l := l) (G := G) (sx_zr xs (i + 1)) (sx_zr xs (i + 2)) (sx_zr xs (i + 3)) hc hI
  refine J_callV (st := []) dL_law_1088 cv_L_140 hJ ho1 rfl rfl (Nat.le_of_ble_eq_true rfl) ⟨(Nat.le_of_ble_eq_true rfl), (Nat.le_of_ble_eq_true rfl)⟩ ⟨(by show ck + 1 ≤ 600000; omega), (by show sk + S ≤ 7302250; omega)⟩ (fun r1 h1 q1 => ?_)
  obtain ⟨e1, ⟨ph2, hI2, hy⟩, hf2⟩ := hQ r1 h1 q1
  obtain ⟨z1, e1⟩ := e1
  subst e1
  obtain ⟨nh2, fh2⟩ := h1
  refine J_nf (nh2 := nh2) (ck2 := ck + 1) (sk2 := sk + S) (st2 := [.int (zI z1)]) rfl rfl rfl rfl ?_
  have hM2 : MI fh2 c aa := hM.frame hf2
  refine J_pop dL_law_1091 rfl ?_
  refine J_aload_n dL_law_1092 rfl rfl ?_
  refine J_sload_n dL_law_1093 rfl rfl ?_
  refine J_iload_n dL_law_1094 rfl rfl ?_
  refine Z_iconst (n := 1) dL_law_1095 ?_
  refine Z_iadd (c := i + 1) dL_law_1096 rfl ?_
  refine L_sldz (i := i + 1) dL_law_1097 (by omega) (by omega) hL ?_
  refine J_sload_n dL_law_1098 rfl rfl ?_
  refine J_iload_n dL_law_1099 rfl rfl ?_
  refine Z_iconst (n := 2) dL_law_1100 ?_
  refine Z_iadd (c := i + 2) dL_law_1101 rfl ?_
  refine L_sldz (i := i + 2) dL_law_1102 (by omega) (by omega) hL ?_
  refine J_sload_n dL_law_1103 rfl rfl ?_
  refine J_iload_n dL_law_1104 rfl rfl ?_
  refine Z_iconst (n := 3) dL_law_1105 ?_
  refine Z_iadd (c := i + 3) dL_law_1106 rfl ?_
  refine L_sldz (i := i + 3) dL_law_1107 (by omega) (by omega) hL ?_
  obtain ⟨fs2, ho2⟩ := hM2.obj
  obtain ⟨Pm, hJ2, hQ2⟩ := M_drunk (l := l) (G := G) (nh := nh2) (sx_zr xs (i + 1)) (sx_zr xs (i + 2)) (sx_zr xs (i + 3)) hc hM2
  refine J_callV (st := []) dL_law_1108 cv_L_143 hJ2 ho2 rfl rfl (Nat.le_of_ble_eq_true rfl) ⟨(Nat.le_of_ble_eq_true rfl), (Nat.le_of_ble_eq_true rfl)⟩ ⟨(by show ck + 1 + 0 ≤ 600000; omega), (by show sk + S + 0 ≤ 7302250; omega)⟩ (fun r2 h2 q2 => ?_)
  obtain ⟨e2, hn2, hM3, hf3⟩ := hQ2 r2 h2 q2
  obtain ⟨z2, e2⟩ := e2
  subst e2
  obtain ⟨nh3, fh3⟩ := h2
  have hn3 : nh3 = nh2 := hn2
  subst hn3
  refine J_nf (nh2 := nh3) (ck2 := ck + 1) (sk2 := sk + S) (st2 := [.int (zI z2)]) rfl rfl rfl rfl ?_
  have hI3 := hI2.frame hf3
  refine J_pop dL_law_1111 rfl ?_
  refine J_goto (tgt := 1220) dL_law_1112 (by decide) ?_
  exact kk _ _ _ _ _ _ hI3 hM3 (by omega) (by omega)
set_option maxHeartbeats 4000000 in
set_option maxRecDepth 100000 in
theorem law_case_31 {l : Launch} {G : jG} {b L : Nat} {xs : Nat → Int32} (hL : L ≤ 3072) {nh : Nat} {fh : Nat → Option va_E} {ck sk : Nat} {i c ph : Int} {aa : jAA} (i0 : 0 ≤ i) (i1 : i + 6 ≤ L) (hc : c ≤ 599) (c0 : 0 ≤ c) (hI : CI fh nh c ph aa) (hM : MI fh c aa) (hck : (ck : Int) ≤ 135 + 3 * c) (hsk : (sk : Int) ≤ 415506 + ph + 412 * c) (kk : ∀ (nh2 : Nat) (fh2 : Nat → Option va_E) (ck2 sk2 : Nat) (ph2 : Int) (aa2 : jAA), CI fh2 nh2 (c + 1) ph2 aa2 → MI fh2 (c + 1) aa2 → (ck2 : Int) ≤ 135 + 3 * (c + 1) → (sk2 : Int) ≤ 415506 + ph2 + 412 * (c + 1) → J l G ML_law room_1 (lE b L xs G) lQ (nh2, fh2) ck2 sk2 1220 [some (.retAddr 0), some (.ref 0), some (.ref 98), some (.int (zI i))] []) : J l G ML_law room_1 (lE b L xs G) lQ (nh, fh) ck sk 1115 [some (.retAddr 0), some (.ref 0), some (.ref 98), some (.int (zI i))] [] := by
  refine J_aload_n dL_law_1115 rfl rfl ?_
  refine J_sload_n dL_law_1116 rfl rfl ?_
  refine J_iload_n dL_law_1117 rfl rfl ?_
  refine Z_iconst (n := 1) dL_law_1118 ?_
  refine Z_iadd (c := i + 1) dL_law_1119 rfl ?_
  refine L_sldz (i := i + 1) dL_law_1120 (by omega) (by omega) hL ?_
  obtain ⟨⟨fs1, ho1⟩, hp0, hp1⟩ := hI.obj
  obtain ⟨S, Po, hS, hJ, hQ⟩ := C_drawn (l := l) (G := G) (sx_zr xs (i + 1)) hc hI
  refine J_callV (st := []) dL_law_1121 cv_L_144 hJ ho1 rfl rfl (Nat.le_of_ble_eq_true rfl) ⟨(Nat.le_of_ble_eq_true rfl), (Nat.le_of_ble_eq_true rfl)⟩ ⟨(by show ck + 0 ≤ 600000; omega), (by show sk + S ≤ 7302250; omega)⟩ (fun r1 h1 q1 => ?_)
  obtain ⟨e1, ⟨ph2, hI2, hy⟩, hf2⟩ := hQ r1 h1 q1
  obtain ⟨z1, e1⟩ := e1
  subst e1
  obtain ⟨nh2, fh2⟩ := h1
  refine J_nf (nh2 := nh2) (ck2 := ck + 0) (sk2 := sk + S) (st2 := [.int (zI z1)]) rfl rfl rfl rfl ?_
  have hM2 : MI fh2 c aa := hM.frame hf2
  refine J_pop dL_law_1124 rfl ?_
  refine J_aload_n dL_law_1125 rfl rfl ?_
  refine J_sload_n dL_law_1126 rfl rfl ?_
  refine J_iload_n dL_law_1127 rfl rfl ?_
  refine Z_iconst (n := 1) dL_law_1128 ?_
  refine Z_iadd (c := i + 1) dL_law_1129 rfl ?_
  refine L_sldz (i := i + 1) dL_law_1130 (by omega) (by omega) hL ?_
  obtain ⟨fs2, ho2⟩ := hM2.obj
  obtain ⟨Pm, hJ2, hQ2⟩ := M_drawn (l := l) (G := G) (nh := nh2) (sx_zr xs (i + 1)) hc hM2
  refine J_callV (st := []) dL_law_1131 cv_L_147 hJ2 ho2 rfl rfl (Nat.le_of_ble_eq_true rfl) ⟨(Nat.le_of_ble_eq_true rfl), (Nat.le_of_ble_eq_true rfl)⟩ ⟨(by show ck + 0 + 0 ≤ 600000; omega), (by show sk + S + 0 ≤ 7302250; omega)⟩ (fun r2 h2 q2 => ?_)
  obtain ⟨e2, hn2, hM3, hf3⟩ := hQ2 r2 h2 q2
  obtain ⟨z2, e2⟩ := e2
  subst e2
  obtain ⟨nh3, fh3⟩ := h2
  have hn3 : nh3 = nh2 := hn2
  subst hn3
  refine J_nf (nh2 := nh3) (ck2 := ck + 0) (sk2 := sk + S) (st2 := [.int (zI z2)]) rfl rfl rfl rfl ?_
  have hI3 := hI2.frame hf3
  refine J_pop dL_law_1134 rfl ?_
  refine J_goto (tgt := 1220) dL_law_1135 (by decide) ?_
  exact kk _ _ _ _ _ _ hI3 hM3 (by omega) (by omega)
set_option maxHeartbeats 4000000 in
set_option maxRecDepth 100000 in
theorem law_case_32 {l : Launch} {G : jG} {b L : Nat} {xs : Nat → Int32} (hL : L ≤ 3072) {nh : Nat} {fh : Nat → Option va_E} {ck sk : Nat} {i c ph : Int} {aa : jAA} (i0 : 0 ≤ i) (i1 : i + 6 ≤ L) (hc : c ≤ 599) (c0 : 0 ≤ c) (hI : CI fh nh c ph aa) (hM : MI fh c aa) (hck : (ck : Int) ≤ 135 + 3 * c) (hsk : (sk : Int) ≤ 415506 + ph + 412 * c) (kk : ∀ (nh2 : Nat) (fh2 : Nat → Option va_E) (ck2 sk2 : Nat) (ph2 : Int) (aa2 : jAA), CI fh2 nh2 (c + 1) ph2 aa2 → MI fh2 (c + 1) aa2 → (ck2 : Int) ≤ 135 + 3 * (c + 1) → (sk2 : Int) ≤ 415506 + ph2 + 412 * (c + 1) → J l G ML_law room_1 (lE b L xs G) lQ (nh2, fh2) ck2 sk2 1220 [some (.retAddr 0), some (.ref 0), some (.ref 98), some (.int (zI i))] []) : J l G ML_law room_1 (lE b L xs G) lQ (nh, fh) ck sk 1138 [some (.retAddr 0), some (.ref 0), some (.ref 98), some (.int (zI i))] [] := by
  refine J_aload_n dL_law_1138 rfl rfl ?_
  refine J_sload_n dL_law_1139 rfl rfl ?_
  refine J_iload_n dL_law_1140 rfl rfl ?_
  refine Z_iconst (n := 1) dL_law_1141 ?_
  refine Z_iadd (c := i + 1) dL_law_1142 rfl ?_
  refine L_sldz (i := i + 1) dL_law_1143 (by omega) (by omega) hL ?_
  obtain ⟨⟨fs1, ho1⟩, hp0, hp1⟩ := hI.obj
  obtain ⟨S, Po, hS, hJ, hQ⟩ := C_image (l := l) (G := G) (sx_zr xs (i + 1)) hc hI
  refine J_callV (st := []) dL_law_1144 cv_L_148 hJ ho1 rfl rfl (Nat.le_of_ble_eq_true rfl) ⟨(Nat.le_of_ble_eq_true rfl), (Nat.le_of_ble_eq_true rfl)⟩ ⟨(by show ck + 0 ≤ 600000; omega), (by show sk + S ≤ 7302250; omega)⟩ (fun r1 h1 q1 => ?_)
  obtain ⟨e1, ⟨ph2, hI2, hy⟩, hf2⟩ := hQ r1 h1 q1
  subst e1
  obtain ⟨nh2, fh2⟩ := h1
  refine J_nf (nh2 := nh2) (ck2 := ck + 0) (sk2 := sk + S) (st2 := [.int (zI (imr (sx xs (i + 1))))]) rfl rfl rfl rfl ?_
  have hM2 : MI fh2 c aa := hM.frame hf2
  refine J_pop dL_law_1147 rfl ?_
  refine J_aload_n dL_law_1148 rfl rfl ?_
  refine J_sload_n dL_law_1149 rfl rfl ?_
  refine J_iload_n dL_law_1150 rfl rfl ?_
  refine Z_iconst (n := 1) dL_law_1151 ?_
  refine Z_iadd (c := i + 1) dL_law_1152 rfl ?_
  refine L_sldz (i := i + 1) dL_law_1153 (by omega) (by omega) hL ?_
  obtain ⟨fs2, ho2⟩ := hM2.obj
  obtain ⟨Pm, hJ2, hQ2⟩ := M_image (l := l) (G := G) (nh := nh2) (sx_zr xs (i + 1)) hc hM2
  refine J_callV (st := []) dL_law_1154 cv_L_151 hJ2 ho2 rfl rfl (Nat.le_of_ble_eq_true rfl) ⟨(Nat.le_of_ble_eq_true rfl), (Nat.le_of_ble_eq_true rfl)⟩ ⟨(by show ck + 0 + 0 ≤ 600000; omega), (by show sk + S + 0 ≤ 7302250; omega)⟩ (fun r2 h2 q2 => ?_)
  obtain ⟨e2, hn2, hM3, hf3⟩ := hQ2 r2 h2 q2
  subst e2
  obtain ⟨nh3, fh3⟩ := h2
  have hn3 : nh3 = nh2 := hn2
  subst hn3
  refine J_nf (nh2 := nh3) (ck2 := ck + 0) (sk2 := sk + S) (st2 := [.int (zI (imr (sx xs (i + 1))))]) rfl rfl rfl rfl ?_
  have hI3 := hI2.frame hf3
  refine J_pop dL_law_1157 rfl ?_
  refine J_goto (tgt := 1220) dL_law_1158 (by decide) ?_
  exact kk _ _ _ _ _ _ hI3 hM3 (by omega) (by omega)
set_option maxHeartbeats 4000000 in
set_option maxRecDepth 100000 in
theorem law_case_33 {l : Launch} {G : jG} {b L : Nat} {xs : Nat → Int32} (hL : L ≤ 3072) {nh : Nat} {fh : Nat → Option va_E} {ck sk : Nat} {i c ph : Int} {aa : jAA} (i0 : 0 ≤ i) (i1 : i + 6 ≤ L) (hc : c ≤ 599) (c0 : 0 ≤ c) (hI : CI fh nh c ph aa) (hM : MI fh c aa) (hck : (ck : Int) ≤ 135 + 3 * c) (hsk : (sk : Int) ≤ 415506 + ph + 412 * c) (kk : ∀ (nh2 : Nat) (fh2 : Nat → Option va_E) (ck2 sk2 : Nat) (ph2 : Int) (aa2 : jAA), CI fh2 nh2 (c + 1) ph2 aa2 → MI fh2 (c + 1) aa2 → (ck2 : Int) ≤ 135 + 3 * (c + 1) → (sk2 : Int) ≤ 415506 + ph2 + 412 * (c + 1) → J l G ML_law room_1 (lE b L xs G) lQ (nh2, fh2) ck2 sk2 1220 [some (.retAddr 0), some (.ref 0), some (.ref 98), some (.int (zI i))] []) : J l G ML_law room_1 (lE b L xs G) lQ (nh, fh) ck sk 1161 [some (.retAddr 0), some (.ref 0), some (.ref 98), some (.int (zI i))] [] := by
  refine J_aload_n dL_law_1161 rfl rfl ?_
  refine J_sload_n dL_law_1162 rfl rfl ?_
  refine J_iload_n dL_law_1163 rfl rfl ?_
  refine Z_iconst (n := 1) dL_law_1164 ?_
  refine Z_iadd (c := i + 1) dL_law_1165 rfl ?_
  refine L_sldz (i := i + 1) dL_law_1166 (by omega) (by omega) hL ?_
  obtain ⟨⟨fs1, ho1⟩, hp0, hp1⟩ := hI.obj
  obtain ⟨S, Po, hS, hJ, hQ⟩ := C_back (l := l) (G := G) (sx_zr xs (i + 1)) hc hI
  refine J_callV (st := []) dL_law_1167 cv_L_152 hJ ho1 rfl rfl (Nat.le_of_ble_eq_true rfl) ⟨(Nat.le_of_ble_eq_true rfl), (Nat.le_of_ble_eq_true rfl)⟩ ⟨(by show ck + 0 ≤ 600000; omega), (by show sk + S ≤ 7302250; omega)⟩ (fun r1 h1 q1 => ?_)
  obtain ⟨e1, ⟨ph2, hI2, hy⟩, hf2⟩ := hQ r1 h1 q1
  subst e1
  obtain ⟨nh2, fh2⟩ := h1
  refine J_nf (nh2 := nh2) (ck2 := ck + 0) (sk2 := sk + S) (st2 := [.int (zI (bkr (sx xs (i + 1)) (aa.2.2.2.2 0) (aa.2.2.2.2 1)))]) rfl rfl rfl rfl ?_
  have hM2 : MI fh2 c aa := hM.frame hf2
  refine J_pop dL_law_1170 rfl ?_
  refine J_aload_n dL_law_1171 rfl rfl ?_
  refine J_sload_n dL_law_1172 rfl rfl ?_
  refine J_iload_n dL_law_1173 rfl rfl ?_
  refine Z_iconst (n := 1) dL_law_1174 ?_
  refine Z_iadd (c := i + 1) dL_law_1175 rfl ?_
  refine L_sldz (i := i + 1) dL_law_1176 (by omega) (by omega) hL ?_
  obtain ⟨fs2, ho2⟩ := hM2.obj
  obtain ⟨Pm, hJ2, hQ2⟩ := M_back (l := l) (G := G) (nh := nh2) (sx_zr xs (i + 1)) hc hM2
  refine J_callV (st := []) dL_law_1177 cv_L_155 hJ2 ho2 rfl rfl (Nat.le_of_ble_eq_true rfl) ⟨(Nat.le_of_ble_eq_true rfl), (Nat.le_of_ble_eq_true rfl)⟩ ⟨(by show ck + 0 + 0 ≤ 600000; omega), (by show sk + S + 0 ≤ 7302250; omega)⟩ (fun r2 h2 q2 => ?_)
  obtain ⟨e2, hn2, hM3, hf3⟩ := hQ2 r2 h2 q2
  subst e2
  obtain ⟨nh3, fh3⟩ := h2
  have hn3 : nh3 = nh2 := hn2
  subst hn3
  refine J_nf (nh2 := nh3) (ck2 := ck + 0) (sk2 := sk + S) (st2 := [.int (zI (bkr (sx xs (i + 1)) (aa.2.2.2.2 0) (aa.2.2.2.2 1)))]) rfl rfl rfl rfl ?_
  have hI3 := hI2.frame hf3
  refine J_pop dL_law_1180 rfl ?_
  refine J_goto (tgt := 1220) dL_law_1181 (by decide) ?_
  exact kk _ _ _ _ _ _ hI3 hM3 (by omega) (by omega)
set_option maxHeartbeats 4000000 in
set_option maxRecDepth 100000 in
theorem law_case_34 {l : Launch} {G : jG} {b L : Nat} {xs : Nat → Int32} (hL : L ≤ 3072) {nh : Nat} {fh : Nat → Option va_E} {ck sk : Nat} {i c ph : Int} {aa : jAA} (i0 : 0 ≤ i) (i1 : i + 6 ≤ L) (hc : c ≤ 599) (c0 : 0 ≤ c) (hI : CI fh nh c ph aa) (hM : MI fh c aa) (hck : (ck : Int) ≤ 135 + 3 * c) (hsk : (sk : Int) ≤ 415506 + ph + 412 * c) (kk : ∀ (nh2 : Nat) (fh2 : Nat → Option va_E) (ck2 sk2 : Nat) (ph2 : Int) (aa2 : jAA), CI fh2 nh2 (c + 1) ph2 aa2 → MI fh2 (c + 1) aa2 → (ck2 : Int) ≤ 135 + 3 * (c + 1) → (sk2 : Int) ≤ 415506 + ph2 + 412 * (c + 1) → J l G ML_law room_1 (lE b L xs G) lQ (nh2, fh2) ck2 sk2 1220 [some (.retAddr 0), some (.ref 0), some (.ref 98), some (.int (zI i))] []) : J l G ML_law room_1 (lE b L xs G) lQ (nh, fh) ck sk 1184 [some (.retAddr 0), some (.ref 0), some (.ref 98), some (.int (zI i))] [] := by
  refine J_aload_n dL_law_1184 rfl rfl ?_
  refine J_sload_n dL_law_1185 rfl rfl ?_
  refine J_iload_n dL_law_1186 rfl rfl ?_
  refine Z_iconst (n := 1) dL_law_1187 ?_
  refine Z_iadd (c := i + 1) dL_law_1188 rfl ?_
  refine L_sldz (i := i + 1) dL_law_1189 (by omega) (by omega) hL ?_
  obtain ⟨⟨fs1, ho1⟩, hp0, hp1⟩ := hI.obj
  obtain ⟨S, Po, hS, hJ, hQ⟩ := C_count (l := l) (G := G) (sx_zr xs (i + 1)) hc hI
  refine J_callV (st := []) dL_law_1190 cv_L_156 hJ ho1 rfl rfl (Nat.le_of_ble_eq_true rfl) ⟨(Nat.le_of_ble_eq_true rfl), (Nat.le_of_ble_eq_true rfl)⟩ ⟨(by show ck + 0 ≤ 600000; omega), (by show sk + S ≤ 7302250; omega)⟩ (fun r1 h1 q1 => ?_)
  obtain ⟨e1, ⟨ph2, hI2, hy⟩, hf2⟩ := hQ r1 h1 q1
  obtain ⟨z1, e1⟩ := e1
  subst e1
  obtain ⟨nh2, fh2⟩ := h1
  refine J_nf (nh2 := nh2) (ck2 := ck + 0) (sk2 := sk + S) (st2 := [.int (zI z1)]) rfl rfl rfl rfl ?_
  have hM2 : MI fh2 c aa := hM.frame hf2
  refine J_pop dL_law_1193 rfl ?_
  refine J_aload_n dL_law_1194 rfl rfl ?_
  refine J_sload_n dL_law_1195 rfl rfl ?_
  refine J_iload_n dL_law_1196 rfl rfl ?_
  refine Z_iconst (n := 1) dL_law_1197 ?_
  refine Z_iadd (c := i + 1) dL_law_1198 rfl ?_
  refine L_sldz (i := i + 1) dL_law_1199 (by omega) (by omega) hL ?_
  obtain ⟨fs2, ho2⟩ := hM2.obj
  obtain ⟨Pm, hJ2, hQ2⟩ := M_count (l := l) (G := G) (nh := nh2) (sx_zr xs (i + 1)) hc hM2
  refine J_callV (st := []) dL_law_1200 cv_L_159 hJ2 ho2 rfl rfl (Nat.le_of_ble_eq_true rfl) ⟨(Nat.le_of_ble_eq_true rfl), (Nat.le_of_ble_eq_true rfl)⟩ ⟨(by show ck + 0 + 0 ≤ 600000; omega), (by show sk + S + 0 ≤ 7302250; omega)⟩ (fun r2 h2 q2 => ?_)
  obtain ⟨e2, hn2, hM3, hf3⟩ := hQ2 r2 h2 q2
  obtain ⟨z2, e2⟩ := e2
  subst e2
  obtain ⟨nh3, fh3⟩ := h2
  have hn3 : nh3 = nh2 := hn2
  subst hn3
  refine J_nf (nh2 := nh3) (ck2 := ck + 0) (sk2 := sk + S) (st2 := [.int (zI z2)]) rfl rfl rfl rfl ?_
  have hI3 := hI2.frame hf3
  refine J_pop dL_law_1203 rfl ?_
  refine J_goto (tgt := 1220) dL_law_1204 (by decide) ?_
  exact kk _ _ _ _ _ _ hI3 hM3 (by omega) (by omega)
set_option maxHeartbeats 4000000 in
set_option maxRecDepth 100000 in
theorem law_case_35 {l : Launch} {G : jG} {b L : Nat} {xs : Nat → Int32} (hL : L ≤ 3072) {nh : Nat} {fh : Nat → Option va_E} {ck sk : Nat} {i c ph : Int} {aa : jAA} (i0 : 0 ≤ i) (i1 : i + 6 ≤ L) (hc : c ≤ 599) (c0 : 0 ≤ c) (hI : CI fh nh c ph aa) (hM : MI fh c aa) (hck : (ck : Int) ≤ 135 + 3 * c) (hsk : (sk : Int) ≤ 415506 + ph + 412 * c) (kk : ∀ (nh2 : Nat) (fh2 : Nat → Option va_E) (ck2 sk2 : Nat) (ph2 : Int) (aa2 : jAA), CI fh2 nh2 (c + 1) ph2 aa2 → MI fh2 (c + 1) aa2 → (ck2 : Int) ≤ 135 + 3 * (c + 1) → (sk2 : Int) ≤ 415506 + ph2 + 412 * (c + 1) → J l G ML_law room_1 (lE b L xs G) lQ (nh2, fh2) ck2 sk2 1220 [some (.retAddr 0), some (.ref 0), some (.ref 98), some (.int (zI i))] []) : J l G ML_law room_1 (lE b L xs G) lQ (nh, fh) ck sk 1207 [some (.retAddr 0), some (.ref 0), some (.ref 98), some (.int (zI i))] [] := by
  refine J_aload_n dL_law_1207 rfl rfl ?_
  obtain ⟨⟨fs1, ho1⟩, hp0, hp1⟩ := hI.obj
  obtain ⟨S, Po, hS, hJ, hQ⟩ := C_status (l := l) (G := G)  hc hI
  refine J_callV (st := []) dL_law_1208 cv_L_160 hJ ho1 rfl rfl (Nat.le_of_ble_eq_true rfl) ⟨(Nat.le_of_ble_eq_true rfl), (Nat.le_of_ble_eq_true rfl)⟩ ⟨(by show ck + 0 ≤ 600000; omega), (by show sk + S ≤ 7302250; omega)⟩ (fun r1 h1 q1 => ?_)
  obtain ⟨e1, ⟨ph2, hI2, hy⟩, hf2⟩ := hQ r1 h1 q1
  obtain ⟨z1, e1⟩ := e1
  subst e1
  obtain ⟨nh2, fh2⟩ := h1
  refine J_nf (nh2 := nh2) (ck2 := ck + 0) (sk2 := sk + S) (st2 := [.int (zI z1)]) rfl rfl rfl rfl ?_
  have hM2 : MI fh2 c aa := hM.frame hf2
  refine J_pop dL_law_1211 rfl ?_
  refine J_aload_n dL_law_1212 rfl rfl ?_
  obtain ⟨fs2, ho2⟩ := hM2.obj
  obtain ⟨Pm, hJ2, hQ2⟩ := M_status (l := l) (G := G) (nh := nh2)  hc hM2
  refine J_callV (st := []) dL_law_1213 cv_L_163 hJ2 ho2 rfl rfl (Nat.le_of_ble_eq_true rfl) ⟨(Nat.le_of_ble_eq_true rfl), (Nat.le_of_ble_eq_true rfl)⟩ ⟨(by show ck + 0 + 0 ≤ 600000; omega), (by show sk + S + 0 ≤ 7302250; omega)⟩ (fun r2 h2 q2 => ?_)
  obtain ⟨e2, hn2, hM3, hf3⟩ := hQ2 r2 h2 q2
  obtain ⟨z2, e2⟩ := e2
  subst e2
  obtain ⟨nh3, fh3⟩ := h2
  have hn3 : nh3 = nh2 := hn2
  subst hn3
  refine J_nf (nh2 := nh3) (ck2 := ck + 0) (sk2 := sk + S) (st2 := [.int (zI z2)]) rfl rfl rfl rfl ?_
  have hI3 := hI2.frame hf3
  refine J_pop dL_law_1216 rfl ?_
  refine J_goto (tgt := 1220) dL_law_1217 (by decide) ?_
  exact kk _ _ _ _ _ _ hI3 hM3 (by omega) (by omega)
set_option maxHeartbeats 4000000 in
set_option maxRecDepth 100000 in
theorem CI.later {fh : Nat → Option va_E} {nh : Nat} {c ph : Int} {aa : jAA} (h : CI fh nh c ph aa) : CI fh nh (c + 1) ph aa := by
  refine h _ (fun ks rn rx ku ki ke km ko cst cfa cdk lc fo wc cc sc lc1 fo1 wc1 cc1 sc1 lc2 fo2 wc2 cc2 sc2 many places dln dtk dst dbh dva dpa dfl dsz ve ss vs ht br hl le ba tk ns rc wso wv wt wls wlv se nu ni fd rv ne rm fv be wrs av pt nm no_ rfs ff tf wa wb ca cb sa sb ff1 tf1 wa1 wb1 ca1 cb1 sa1 sb1 ff2 tf2 wa2 wb2 ca2 cb2 sa2 sb2 kb rf bf dtp dcd wf kf nf df sf vf fa wy od lt hd nx bb ra rb uf it psa pbf pod rnx rrd ef gla gra qbt qft qsb qoo mf oof vis lf lf1 lf2 gr_o gr_rf gr_s gr_s1 gr_s2 gr_im gr_c gr_d gr_t gr_w gr_p gr_r gr_m gr_q gr_y gr_v gr_x => ?_)
  obtain ⟨hk0, w0, w1⟩ := gr_o
  have hk96 := gr_rf
  obtain ⟨hk1, hk2, hk3, hk4, hk11, hk12, hk13, hk14, hk15, hk16, w2, w3, w4, w5, w6, w7, w8, w9, w10, w11, w12, w13, w14, w15, w16, w17, w18, w19, w20, w21, w22⟩ := gr_s
  obtain ⟨hk18, hk19, hk20, hk21, hk28, hk29, hk30, hk31, hk32, hk33, w23, w24, w25, w26, w27, w28, w29, w30, w31, w32, w33, w34, w35, w36, w37, w38, w39, w40, w41, w42, w43⟩ := gr_s1
  obtain ⟨hk34, hk35, hk36, hk37, hk44, hk45, hk46, hk47, hk48, hk49, w44, w45, w46, w47, w48, w49, w50, w51, w52, w53, w54, w55, w56, w57, w58, w59, w60, w61, w62, w63, w64⟩ := gr_s2
  obtain ⟨hk17, hk50, w65⟩ := gr_im
  obtain ⟨hk51, hk52, hk53, w66, w67, w68, w69, w70, w71, w72, w73, w74⟩ := gr_c
  obtain ⟨hk54, hk55, hk56, w75, w76, w77, w78, w79, w80, w81, w82⟩ := gr_d
  obtain ⟨hk57, hk58, hk59, hk60, hk61, hk62, hkks, hk64, w83, w84, w85, w86, w87, w88, w89, w90, w91, w92, w93, w94, w95, w96, w97, w98, w99, w100, w101, w102, w103, w104, w105, w106, w107, w108, w109⟩ := gr_t
  obtain ⟨hk65, hk66, hk67, hk68, hk69, hk70, hk71, hk72, hk73, hk74, w110, w111, w112, w113, w114, w115, w116, w117, w118, w119⟩ := gr_w
  obtain ⟨hk75, hkku, hkki, hk78, hk79, hk80, w120, w121, w122, w123, w124, w125, w126, w127, w128, w129, w130, w131, w132⟩ := gr_p
  obtain ⟨hk81, hk82, hk83, hkke, w133, w134, w135, w136, w137, w138, w139, w140, w141, w142⟩ := gr_r
  obtain ⟨hk85, hk86, hk87, w143, w144⟩ := gr_m
  obtain ⟨hk88, hk89, hk90, hk91, hk92, w145, w146, w147, w148, w149, w150⟩ := gr_q
  obtain ⟨hk93, hkkm, hkko, w151, w152, w153, w154, w155, w156, w157, w158, w159, w160, w161⟩ := gr_y
  have hk97 := gr_v
  obtain ⟨w162, w163, w164, w165, w166, w167, w168, w169, w170, w171, w172, w173, w174, w175, w176, w177, w178, w179, w180, w181, w182, w183, w184, w185, w186, w187⟩ := gr_x
  exact fun _ kk => kk ks rn rx ku ki ke km ko cst cfa cdk lc fo wc cc sc lc1 fo1 wc1 cc1 sc1 lc2 fo2 wc2 cc2 sc2 many places dln dtk dst dbh dva dpa dfl dsz ve ss vs ht br hl le ba tk ns rc wso wv wt wls wlv se nu ni fd rv ne rm fv be wrs av pt nm no_ rfs ff tf wa wb ca cb sa sb ff1 tf1 wa1 wb1 ca1 cb1 sa1 sb1 ff2 tf2 wa2 wb2 ca2 cb2 sa2 sb2 kb rf bf dtp dcd wf kf nf df sf vf fa wy od lt hd nx bb ra rb uf it psa pbf pod rnx rrd ef gla gra qbt qft qsb qoo mf oof vis lf lf1 lf2 ⟨hk0, w0, w1⟩ hk96 ⟨hk1, hk2, hk3, hk4, hk11, hk12, hk13, hk14, hk15, hk16, w2, w3, w4, w5, w6, w7, w8, w9, w10, w11, w12, w13, w14, w15, w16, w17, w18, w19, w20, w21, w22⟩ ⟨hk18, hk19, hk20, hk21, hk28, hk29, hk30, hk31, hk32, hk33, w23, w24, w25, w26, w27, w28, w29, w30, w31, w32, w33, w34, w35, w36, w37, w38, w39, w40, w41, w42, w43⟩ ⟨hk34, hk35, hk36, hk37, hk44, hk45, hk46, hk47, hk48, hk49, w44, w45, w46, w47, w48, w49, w50, w51, w52, w53, w54, w55, w56, w57, w58, w59, w60, w61, w62, w63, w64⟩ ⟨hk17, hk50, w65⟩ ⟨hk51, hk52, hk53, w66, w67, w68, w69, w70, w71, w72, w73, w74⟩ ⟨hk54, hk55, hk56, w75, w76, w77, w78, w79, w80, w81, w82⟩ ⟨hk57, hk58, hk59, hk60, hk61, hk62, hkks, hk64, w83, w84, w85, w86, w87, w88, w89, w90, (by have u := w91; omega), w92, w93, w94, w95, w96, w97, w98, w99, w100, w101, w102, w103, w104, w105, w106, w107, w108, w109⟩ ⟨hk65, hk66, hk67, hk68, hk69, hk70, hk71, hk72, hk73, hk74, w110, w111, w112, w113, w114, w115, w116, w117, w118, w119⟩ ⟨hk75, hkku, hkki, hk78, hk79, hk80, w120, w121, w122, w123, w124, w125, w126, w127, w128, w129, w130, w131, w132⟩ ⟨hk81, hk82, hk83, hkke, w133, w134, w135, w136, w137, w138, w139, w140, w141, w142⟩ ⟨hk85, hk86, hk87, w143, w144⟩ ⟨hk88, hk89, hk90, hk91, hk92, w145, w146, w147, w148, w149, w150⟩ ⟨hk93, hkkm, hkko, w151, w152, w153, w154, w155, w156, w157, w158, w159, w160, w161⟩ hk97 ⟨(by have u := w162; omega), w163, w164, w165, w166, w167, w168, w169, w170, w171, w172, w173, w174, w175, w176, w177, w178, w179, w180, w181, w182, w183, w184, w185, w186, w187⟩
set_option maxHeartbeats 4000000 in
set_option maxRecDepth 100000 in
theorem MI.later {fh : Nat → Option va_E} {c : Int} {aa : jAA} (h : MI fh c aa) : MI fh (c + 1) aa := by
  refine h _ (fun ms mv mt mfa mtn mtk mlv mbd mgo mge mbk mtt mtl hm pm hb sb mfu mdm mla rf7 K im hi wd ta fv cc va plc aq co cd st tk sm cf cm of fa fm li le dn tg us wf wb ra rb en fg ak mi pol dt gr_A gr_B gr_D gr_E gr_F gr_G gr_H gr_K => ?_)
  obtain ⟨hk98, hk99, hk100, hk101, hk102, hk103, hk104, hk105⟩ := gr_A
  obtain ⟨hk106, hk107, hk108, hk109, hk110, hk111⟩ := gr_B
  obtain ⟨hk112, hk113, hk114, hk115, hk116, hk117⟩ := gr_D
  obtain ⟨hk118, hk119, hk120, hk121, hk122, hk123, hk124, hk125, hk126⟩ := gr_E
  obtain ⟨hk127, hk128, hk129, hk130, hk131, hk132, hk133, hk134⟩ := gr_F
  obtain ⟨w0, w1, w2, w3, w4, w5, w6, w7⟩ := gr_G
  obtain ⟨w8, w9, w10, w11, w12, w13, w14, w15, w16, w17⟩ := gr_H
  obtain ⟨w18, w19, w20, w21, w22, w23, w24, w25, w26, w27, w28, w29, w30, w31, w32, w33, w34, w35⟩ := gr_K
  exact fun _ kk => kk ms mv mt mfa mtn mtk mlv mbd mgo mge mbk mtt mtl hm pm hb sb mfu mdm mla rf7 K im hi wd ta fv cc va plc aq co cd st tk sm cf cm of fa fm li le dn tg us wf wb ra rb en fg ak mi pol dt ⟨hk98, hk99, hk100, hk101, hk102, hk103, hk104, hk105⟩ ⟨hk106, hk107, hk108, hk109, hk110, hk111⟩ ⟨hk112, hk113, hk114, hk115, hk116, hk117⟩ ⟨hk118, hk119, hk120, hk121, hk122, hk123, hk124, hk125, hk126⟩ ⟨hk127, hk128, hk129, hk130, hk131, hk132, hk133, hk134⟩ ⟨w0, w1, w2, w3, w4, w5, w6, w7⟩ ⟨w8, w9, w10, w11, w12, w13, w14, w15, w16, w17⟩ ⟨w18, w19, w20, w21, w22, w23, w24, w25, w26, w27, w28, (by have u := w29; omega), (by have u := w30; omega), w31, w32, w33, w34, w35⟩
set_option maxHeartbeats 4000000 in
set_option maxRecDepth 100000 in
theorem law_go {l : Launch} {G : jG} {b L : Nat} {xs : Nat → Int32} (hL : L ≤ 3072) : ∀ (n : Nat) (nh : Nat) (fh : Nat → Option va_E) (ck sk : Nat) (c ph : Int) (aa : jAA), CI fh nh c ph aa → MI fh c aa → 0 ≤ c → (ck : Int) ≤ 135 + 3 * c → (sk : Int) ≤ 415506 + ph + 412 * c → 6 * c ≤ L → ((L : Int) - 6 * c).toNat < n → J l G ML_law room_1 (lE b L xs G) lQ (nh, fh) ck sk 18 [some (.retAddr 0), some (.ref 0), some (.ref 98), some (.int (zI (6 * c)))] [] := by
  intro n
  induction n with
  | zero => intro nh fh ck sk c ph aa _ _ _ _ _ _ h; exact absurd h (Nat.not_lt_zero _)
  | succ n ih =>
    intro nh fh ck sk c ph aa hI hM c0 hck hsk hcL hn
    obtain ⟨_, hp0, hp1⟩ := hI.obj
    refine J_iload_n dL_law_18 rfl rfl ?_
    refine J_sload_n dL_law_19 rfl rfl ?_
    refine L_slen (v := zI (L : Int)) dL_law_20 (zI_nat L).symm ?_
    refine Z_bipush (n := 6) dL_law_21 (by decide +kernel) ?_
    refine Z_isub (c := (L : Int) - 6) dL_law_23 rfl ?_
    refine Z_icmp_gt (tgt := 1226) dL_law_24 (by decide) (by omega) (by omega) (fun _ => ?_) (fun hg => ?_)
    · refine J_iconst (v := 1) dL_law_1226 (by decide) ?_
      exact L_ret dL_law_1227 (by omega) (by omega)
    · refine J_sload_n dL_law_27 rfl rfl ?_
      refine J_iload_n dL_law_28 rfl rfl ?_
      refine L_sldz (i := 6 * c) dL_law_29 (by omega) (by omega) hL ?_
      refine Z_bipush (n := 63) dL_law_30 (by decide +kernel) ?_
      obtain ⟨j, ej⟩ : ∃ z : Int, zand (sx xs (6 * c)) 63 = z := ⟨_, rfl⟩
      have hj : 0 ≤ j ∧ j ≤ 63 := zand_mask 6 (by decide) (by decide +kernel) (by decide) ej
      refine Y_iand (z := j) dL_law_32 ej ?_
      have kk : ∀ (nh2 : Nat) (fh2 : Nat → Option va_E) (ck2 sk2 : Nat) (ph2 : Int) (aa2 : jAA), CI fh2 nh2 (c + 1) ph2 aa2 → MI fh2 (c + 1) aa2 → (ck2 : Int) ≤ 135 + 3 * (c + 1) → (sk2 : Int) ≤ 415506 + ph2 + 412 * (c + 1) → J l G ML_law room_1 (lE b L xs G) lQ (nh2, fh2) ck2 sk2 1220 [some (.retAddr 0), some (.ref 0), some (.ref 98), some (.int (zI (6 * c)))] [] := by
        intro nh2 fh2 ck2 sk2 ph2 aa2 a1 a2 a3 a4
        refine Z_iinc (c := 6 * (c + 1)) (ls2 := [some (.retAddr 0), some (.ref 0), some (.ref 98), some (.int (zI (6 * (c + 1))))]) dL_law_1220 rfl (Nat.le_of_ble_eq_true rfl) rfl (by omega) rfl ?_
        refine J_goto (tgt := 18) dL_law_1223 (by decide) ?_
        exact ih nh2 fh2 ck2 sk2 (c + 1) ph2 aa2 a1 a2 (by omega) a3 a4 (by omega) (by omega)
      by_cases g0 : j = 0
      · refine Z_tableIn (tgt := 192) (off := 159) 0 dL_law_33 (by omega) g0 (by decide) (by decide) (by decide) (by decide) ?_
        exact law_case_0 hL (by omega) (by omega) (by omega) c0 hI hM hck hsk kk
      by_cases g1 : j = 1
      · refine Z_tableIn (tgt := 225) (off := 192) 1 dL_law_33 (by omega) g1 (by decide) (by decide) (by decide) (by decide) ?_
        exact law_case_1 hL (by omega) (by omega) (by omega) c0 hI hM hck hsk kk
      by_cases g2 : j = 2
      · refine Z_tableIn (tgt := 238) (off := 205) 2 dL_law_33 (by omega) g2 (by decide) (by decide) (by decide) (by decide) ?_
        exact law_case_2 hL (by omega) (by omega) (by omega) c0 hI hM hck hsk kk
      by_cases g3 : j = 3
      · refine Z_tableIn (tgt := 261) (off := 228) 3 dL_law_33 (by omega) g3 (by decide) (by decide) (by decide) (by decide) ?_
        exact law_case_3 hL (by omega) (by omega) (by omega) c0 hI hM hck hsk kk
      by_cases g4 : j = 4
      · refine Z_tableIn (tgt := 284) (off := 251) 4 dL_law_33 (by omega) g4 (by decide) (by decide) (by decide) (by decide) ?_
        exact law_case_4 hL (by omega) (by omega) (by omega) c0 hI hM hck hsk kk
      by_cases g5 : j = 5
      · refine Z_tableIn (tgt := 317) (off := 284) 5 dL_law_33 (by omega) g5 (by decide) (by decide) (by decide) (by decide) ?_
        exact law_case_5 hL (by omega) (by omega) (by omega) c0 hI hM hck hsk kk
      by_cases g6 : j = 6
      · refine Z_tableIn (tgt := 380) (off := 347) 6 dL_law_33 (by omega) g6 (by decide) (by decide) (by decide) (by decide) ?_
        exact law_case_6 hL (by omega) (by omega) (by omega) c0 hI hM hck hsk kk
      by_cases g7 : j = 7
      · refine Z_tableIn (tgt := 403) (off := 370) 7 dL_law_33 (by omega) g7 (by decide) (by decide) (by decide) (by decide) ?_
        exact law_case_7 hL (by omega) (by omega) (by omega) c0 hI hM hck hsk kk
      by_cases g8 : j = 8
      · refine Z_tableIn (tgt := 416) (off := 383) 8 dL_law_33 (by omega) g8 (by decide) (by decide) (by decide) (by decide) ?_
        exact law_case_8 hL (by omega) (by omega) (by omega) c0 hI hM hck hsk kk
      by_cases g9 : j = 9
      · refine Z_tableIn (tgt := 429) (off := 396) 9 dL_law_33 (by omega) g9 (by decide) (by decide) (by decide) (by decide) ?_
        exact law_case_9 hL (by omega) (by omega) (by omega) c0 hI hM hck hsk kk
      by_cases g10 : j = 10
      · refine Z_tableIn (tgt := 442) (off := 409) 10 dL_law_33 (by omega) g10 (by decide) (by decide) (by decide) (by decide) ?_
        exact law_case_10 hL (by omega) (by omega) (by omega) c0 hI hM hck hsk kk
      by_cases g11 : j = 11
      · refine Z_tableIn (tgt := 465) (off := 432) 11 dL_law_33 (by omega) g11 (by decide) (by decide) (by decide) (by decide) ?_
        exact law_case_11 hL (by omega) (by omega) (by omega) c0 hI hM hck hsk kk
      by_cases g12 : j = 12
      · refine Z_tableIn (tgt := 498) (off := 465) 12 dL_law_33 (by omega) g12 (by decide) (by decide) (by decide) (by decide) ?_
        exact law_case_12 hL (by omega) (by omega) (by omega) c0 hI hM hck hsk kk
      by_cases g13 : j = 13
      · refine Z_tableIn (tgt := 531) (off := 498) 13 dL_law_33 (by omega) g13 (by decide) (by decide) (by decide) (by decide) ?_
        exact law_case_13 hL (by omega) (by omega) (by omega) c0 hI hM hck hsk kk
      by_cases g14 : j = 14
      · refine Z_tableIn (tgt := 574) (off := 541) 14 dL_law_33 (by omega) g14 (by decide) (by decide) (by decide) (by decide) ?_
        exact law_case_14 hL (by omega) (by omega) (by omega) c0 hI hM hck hsk kk
      by_cases g15 : j = 15
      · refine Z_tableIn (tgt := 617) (off := 584) 15 dL_law_33 (by omega) g15 (by decide) (by decide) (by decide) (by decide) ?_
        exact law_case_15 hL (by omega) (by omega) (by omega) c0 hI hM hck hsk kk
      by_cases g16 : j = 16
      · refine Z_tableIn (tgt := 660) (off := 627) 16 dL_law_33 (by omega) g16 (by decide) (by decide) (by decide) (by decide) ?_
        exact law_case_16 hL (by omega) (by omega) (by omega) c0 hI hM hck hsk kk
      by_cases g17 : j = 17
      · refine Z_tableIn (tgt := 693) (off := 660) 17 dL_law_33 (by omega) g17 (by decide) (by decide) (by decide) (by decide) ?_
        exact law_case_17 hL (by omega) (by omega) (by omega) c0 hI hM hck hsk kk
      by_cases g18 : j = 18
      · refine Z_tableIn (tgt := 726) (off := 693) 18 dL_law_33 (by omega) g18 (by decide) (by decide) (by decide) (by decide) ?_
        exact law_case_18 hL (by omega) (by omega) (by omega) c0 hI hM hck hsk kk
      by_cases g19 : j = 19
      · refine Z_tableIn (tgt := 759) (off := 726) 19 dL_law_33 (by omega) g19 (by decide) (by decide) (by decide) (by decide) ?_
        exact law_case_19 hL (by omega) (by omega) (by omega) c0 hI hM hck hsk kk
      by_cases g20 : j = 20
      · refine Z_tableIn (tgt := 802) (off := 769) 20 dL_law_33 (by omega) g20 (by decide) (by decide) (by decide) (by decide) ?_
        exact law_case_20 hL (by omega) (by omega) (by omega) c0 hI hM hck hsk kk
      by_cases g21 : j = 21
      · refine Z_tableIn (tgt := 825) (off := 792) 21 dL_law_33 (by omega) g21 (by decide) (by decide) (by decide) (by decide) ?_
        exact law_case_21 hL (by omega) (by omega) (by omega) c0 hI hM hck hsk kk
      by_cases g22 : j = 22
      · refine Z_tableIn (tgt := 858) (off := 825) 22 dL_law_33 (by omega) g22 (by decide) (by decide) (by decide) (by decide) ?_
        exact law_case_22 hL (by omega) (by omega) (by omega) c0 hI hM hck hsk kk
      by_cases g23 : j = 23
      · refine Z_tableIn (tgt := 881) (off := 848) 23 dL_law_33 (by omega) g23 (by decide) (by decide) (by decide) (by decide) ?_
        exact law_case_23 hL (by omega) (by omega) (by omega) c0 hI hM hck hsk kk
      by_cases g24 : j = 24
      · refine Z_tableIn (tgt := 904) (off := 871) 24 dL_law_33 (by omega) g24 (by decide) (by decide) (by decide) (by decide) ?_
        exact law_case_24 hL (by omega) (by omega) (by omega) c0 hI hM hck hsk kk
      by_cases g25 : j = 25
      · refine Z_tableIn (tgt := 927) (off := 894) 25 dL_law_33 (by omega) g25 (by decide) (by decide) (by decide) (by decide) ?_
        exact law_case_25 hL (by omega) (by omega) (by omega) c0 hI hM hck hsk kk
      by_cases g26 : j = 26
      · refine Z_tableIn (tgt := 960) (off := 927) 26 dL_law_33 (by omega) g26 (by decide) (by decide) (by decide) (by decide) ?_
        exact law_case_26 hL (by omega) (by omega) (by omega) c0 hI hM hck hsk kk
      by_cases g27 : j = 27
      · refine Z_tableIn (tgt := 973) (off := 940) 27 dL_law_33 (by omega) g27 (by decide) (by decide) (by decide) (by decide) ?_
        exact law_case_27 hL (by omega) (by omega) (by omega) c0 hI hM hck hsk kk
      by_cases g28 : j = 28
      · refine Z_tableIn (tgt := 996) (off := 963) 28 dL_law_33 (by omega) g28 (by decide) (by decide) (by decide) (by decide) ?_
        exact law_case_28 hL (by omega) (by omega) (by omega) c0 hI hM hck hsk kk
      by_cases g29 : j = 29
      · refine Z_tableIn (tgt := 1019) (off := 986) 29 dL_law_33 (by omega) g29 (by decide) (by decide) (by decide) (by decide) ?_
        exact law_case_29 hL (by omega) (by omega) (by omega) c0 hI hM hck hsk kk
      by_cases g30 : j = 30
      · refine Z_tableIn (tgt := 1072) (off := 1039) 30 dL_law_33 (by omega) g30 (by decide) (by decide) (by decide) (by decide) ?_
        exact law_case_30 hL (by omega) (by omega) (by omega) c0 hI hM hck hsk kk
      by_cases g31 : j = 31
      · refine Z_tableIn (tgt := 1115) (off := 1082) 31 dL_law_33 (by omega) g31 (by decide) (by decide) (by decide) (by decide) ?_
        exact law_case_31 hL (by omega) (by omega) (by omega) c0 hI hM hck hsk kk
      by_cases g32 : j = 32
      · refine Z_tableIn (tgt := 1138) (off := 1105) 32 dL_law_33 (by omega) g32 (by decide) (by decide) (by decide) (by decide) ?_
        exact law_case_32 hL (by omega) (by omega) (by omega) c0 hI hM hck hsk kk
      by_cases g33 : j = 33
      · refine Z_tableIn (tgt := 1161) (off := 1128) 33 dL_law_33 (by omega) g33 (by decide) (by decide) (by decide) (by decide) ?_
        exact law_case_33 hL (by omega) (by omega) (by omega) c0 hI hM hck hsk kk
      by_cases g34 : j = 34
      · refine Z_tableIn (tgt := 1184) (off := 1151) 34 dL_law_33 (by omega) g34 (by decide) (by decide) (by decide) (by decide) ?_
        exact law_case_34 hL (by omega) (by omega) (by omega) c0 hI hM hck hsk kk
      by_cases g35 : j = 35
      · refine Z_tableIn (tgt := 1207) (off := 1174) 35 dL_law_33 (by omega) g35 (by decide) (by decide) (by decide) (by decide) ?_
        exact law_case_35 hL (by omega) (by omega) (by omega) c0 hI hM hck hsk kk
      refine Z_tableOut (tgt := 1220) dL_law_33 (by omega) (by omega) (by decide) ?_
      exact kk nh fh ck sk ph aa hI.later hM.later (by omega) (by omega)
theorem law_whole {l : Launch} {G : jG} {b L : Nat} {xs : Nat → Int32} (hL : L ≤ 3072) : J l G ML_law room_1 (lE b L xs G) lQ (0, h0) 0 0 0 [some (.retAddr 0), none, none, none] [] :=
  law_at18 (law_go hL (L + 1) 135 H0 135 415506 0 0 aa0 CI_0 MI_0 (by decide) (by decide) (by decide) (by omega) (by omega))
