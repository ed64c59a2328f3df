/-! ===== numbers, reads and writes as equations ===== -/
theorem i_0 : (0 : Int32) = nI 0 := by decide
theorem i_1 : (1 : Int32) = nI 1 := by decide
theorem i_2 : (2 : Int32) = nI 2 := by decide
theorem i_3 : (3 : Int32) = nI 3 := by decide
theorem i_4 : (4 : Int32) = nI 4 := by decide
theorem i_5 : (5 : Int32) = nI 5 := by decide
theorem i_6 : (6 : Int32) = nI 6 := by decide
theorem i_7 : (7 : Int32) = nI 7 := by decide
theorem i_8 : (8 : Int32) = nI 8 := by decide
theorem i_9 : (9 : Int32) = nI 9 := by decide
theorem i_10 : (10 : Int32) = nI 10 := by decide
theorem i_11 : (11 : Int32) = nI 11 := by decide
theorem i_12 : (12 : Int32) = nI 12 := by decide
theorem i_13 : (13 : Int32) = nI 13 := by decide
theorem i_14 : (14 : Int32) = nI 14 := by decide
theorem i_15 : (15 : Int32) = nI 15 := by decide
theorem i_16 : (16 : Int32) = nI 16 := by decide
theorem i_17 : (17 : Int32) = nI 17 := by decide
theorem i_18 : (18 : Int32) = nI 18 := by decide
theorem i_19 : (19 : Int32) = nI 19 := by decide
theorem i_20 : (20 : Int32) = nI 20 := by decide
theorem i_21 : (21 : Int32) = nI 21 := by decide
theorem i_22 : (22 : Int32) = nI 22 := by decide
theorem i_23 : (23 : Int32) = nI 23 := by decide
theorem i_24 : (24 : Int32) = nI 24 := by decide
theorem i_25 : (25 : Int32) = nI 25 := by decide
theorem i_26 : (26 : Int32) = nI 26 := by decide
theorem i_27 : (27 : Int32) = nI 27 := by decide
theorem i_31 : (31 : Int32) = nI 31 := by decide
theorem i_32 : (32 : Int32) = nI 32 := by decide
theorem i_40 : (40 : Int32) = nI 40 := by decide
theorem i_42 : (42 : Int32) = nI 42 := by decide
theorem i_45 : (45 : Int32) = nI 45 := by decide
theorem i_48 : (48 : Int32) = nI 48 := by decide
theorem i_51 : (51 : Int32) = nI 51 := by decide
theorem i_52 : (52 : Int32) = nI 52 := by decide
theorem i_56 : (56 : Int32) = nI 56 := by decide
theorem i_58 : (58 : Int32) = nI 58 := by decide
theorem i_59 : (59 : Int32) = nI 59 := by decide
theorem i_60 : (60 : Int32) = nI 60 := by decide
theorem i_61 : (61 : Int32) = nI 61 := by decide
theorem i_62 : (62 : Int32) = nI 62 := by decide
theorem i_63 : (63 : Int32) = nI 63 := by decide
theorem i_64 : (64 : Int32) = nI 64 := by decide
theorem i_85 : (85 : Int32) = nI 85 := by decide
theorem i_90 : (90 : Int32) = nI 90 := by decide
theorem i_100 : (100 : Int32) = nI 100 := by decide
theorem i_112 : (112 : Int32) = nI 112 := by decide
theorem i_120 : (120 : Int32) = nI 120 := by decide
theorem i_121 : (121 : Int32) = nI 121 := by decide
theorem i_127 : (127 : Int32) = nI 127 := by decide
theorem i_128 : (128 : Int32) = nI 128 := by decide
theorem i_130 : (130 : Int32) = nI 130 := by decide
theorem i_144 : (144 : Int32) = nI 144 := by decide
theorem i_171 : (171 : Int32) = nI 171 := by decide
theorem i_192 : (192 : Int32) = nI 192 := by decide
theorem i_193 : (193 : Int32) = nI 193 := by decide
theorem i_197 : (197 : Int32) = nI 197 := by decide
theorem i_200 : (200 : Int32) = nI 200 := by decide
theorem i_207 : (207 : Int32) = nI 207 := by decide
theorem i_235 : (235 : Int32) = nI 235 := by decide
theorem i_240 : (240 : Int32) = nI 240 := by decide
theorem i_248 : (248 : Int32) = nI 248 := by decide
theorem i_252 : (252 : Int32) = nI 252 := by decide
theorem i_254 : (254 : Int32) = nI 254 := by decide
theorem i_255 : (255 : Int32) = nI 255 := by decide
theorem i_256 : (256 : Int32) = nI 256 := by decide
theorem i_512 : (512 : Int32) = nI 512 := by decide
theorem i_544 : (544 : Int32) = nI 544 := by decide
theorem i_768 : (768 : Int32) = nI 768 := by decide
theorem i_769 : (769 : Int32) = nI 769 := by decide
theorem i_793 : (793 : Int32) = nI 793 := by decide
theorem i_1000 : (1000 : Int32) = nI 1000 := by decide
theorem i_1023 : (1023 : Int32) = nI 1023 := by decide
theorem i_1024 : (1024 : Int32) = nI 1024 := by decide
theorem i_1200 : (1200 : Int32) = nI 1200 := by decide
theorem i_1538 : (1538 : Int32) = nI 1538 := by decide
theorem i_1541 : (1541 : Int32) = nI 1541 := by decide
theorem i_1545 : (1545 : Int32) = nI 1545 := by decide
theorem i_2046 : (2046 : Int32) = nI 2046 := by decide
theorem i_2047 : (2047 : Int32) = nI 2047 := by decide
theorem i_2049 : (2049 : Int32) = nI 2049 := by decide
theorem i_2060 : (2060 : Int32) = nI 2060 := by decide
theorem i_2736 : (2736 : Int32) = nI 2736 := by decide
theorem i_2737 : (2737 : Int32) = nI 2737 := by decide
theorem i_2817 : (2817 : Int32) = nI 2817 := by decide
theorem i_2818 : (2818 : Int32) = nI 2818 := by decide
theorem i_2819 : (2819 : Int32) = nI 2819 := by decide
theorem i_2820 : (2820 : Int32) = nI 2820 := by decide
theorem i_2821 : (2821 : Int32) = nI 2821 := by decide
theorem i_2831 : (2831 : Int32) = nI 2831 := by decide
theorem i_2832 : (2832 : Int32) = nI 2832 := by decide
theorem i_3077 : (3077 : Int32) = nI 3077 := by decide
theorem i_3085 : (3085 : Int32) = nI 3085 := by decide
theorem i_3843 : (3843 : Int32) = nI 3843 := by decide
theorem i_3849 : (3849 : Int32) = nI 3849 := by decide
theorem i_3851 : (3851 : Int32) = nI 3851 := by decide
theorem i_3852 : (3852 : Int32) = nI 3852 := by decide
theorem i_4129 : (4129 : Int32) = nI 4129 := by decide
theorem i_4353 : (4353 : Int32) = nI 4353 := by decide
theorem i_4865 : (4865 : Int32) = nI 4865 := by decide
theorem i_5121 : (5121 : Int32) = nI 5121 := by decide
theorem i_5122 : (5122 : Int32) = nI 5122 := by decide
theorem i_5123 : (5123 : Int32) = nI 5123 := by decide
theorem i_6156 : (6156 : Int32) = nI 6156 := by decide
theorem i_8192 : (8192 : Int32) = nI 8192 := by decide
theorem i_12288 : (12288 : Int32) = nI 12288 := by decide
theorem i_16383 : (16383 : Int32) = nI 16383 := by decide
theorem i_32000 : (32000 : Int32) = nI 32000 := by decide
theorem i_33280 : (33280 : Int32) = nI 33280 := by decide
theorem i_49152 : (49152 : Int32) = nI 49152 := by decide
theorem i_53247 : (53247 : Int32) = nI 53247 := by decide
theorem i_60304 : (60304 : Int32) = nI 60304 := by decide
theorem i_64000 : (64000 : Int32) = nI 64000 := by decide
theorem i_64512 : (64512 : Int32) = nI 64512 := by decide
theorem i_65521 : (65521 : Int32) = nI 65521 := by decide
theorem i_65535 : (65535 : Int32) = nI 65535 := by decide
theorem i_449838109 : (449838109 : Int32) = nI 449838109 := by decide
theorem gl_4 : gln 4 = 138 := by decide +kernel
theorem gl_6 : gln 6 = 1002 := by decide +kernel
theorem gl_8 : gln 8 = 2002 := by decide +kernel
theorem gl_11 : gln 11 = 112 := by decide +kernel
theorem gl_14 : gln 14 = 100 := by decide +kernel
theorem gl_16 : gln 16 = 4800 := by decide +kernel
theorem gl_17 : gln 17 = 40 := by decide +kernel
theorem gl_18 : gln 18 = 40 := by decide +kernel
theorem gl_19 : gln 19 = 40 := by decide +kernel
theorem gl_20 : gln 20 = 40 := by decide +kernel
theorem gl_21 : gln 21 = 24 := by decide +kernel
theorem gl_22 : gln 22 = 24 := by decide +kernel
theorem gl_23 : gln 23 = 24 := by decide +kernel
theorem gl_24 : gln 24 = 64 := by decide +kernel
theorem gl_25 : gln 25 = 64 := by decide +kernel
theorem gl_26 : gln 26 = 64 := by decide +kernel
theorem gl_27 : gln 27 = 64 := by decide +kernel
theorem gl_30 : gln 30 = 1920 := by decide +kernel
theorem gl_31 : gln 31 = 32 := by decide +kernel
theorem gl_32 : gln 32 = 32 := by decide +kernel
theorem gl_33 : gln 33 = 32 := by decide +kernel
theorem gl_34 : gln 34 = 32 := by decide +kernel
theorem gl_36 : gln 36 = 1920 := by decide +kernel
theorem gl_37 : gln 37 = 32 := by decide +kernel
theorem gl_38 : gln 38 = 32 := by decide +kernel
theorem gl_39 : gln 39 = 32 := by decide +kernel
theorem gl_40 : gln 40 = 32 := by decide +kernel
theorem gl_42 : gln 42 = 3 := by decide +kernel
theorem gl_44 : gln 44 = 60 := by decide +kernel
theorem gl_46 : gln 46 = 67 := by decide +kernel
theorem gl_48 : gln 48 = 138 := by decide +kernel
theorem gl_51 : gln 51 = 64 := by decide +kernel
theorem gl_53 : gln 53 = 200 := by decide +kernel
theorem gl_55 : gln 55 = 200 := by decide +kernel
theorem gl_56 : gln 56 = 2 := by decide +kernel
theorem gl_58 : gln 58 = 2 := by decide +kernel
theorem gl_61 : gln 61 = 1200 := by decide +kernel
theorem gl_62 : gln 62 = 80 := by decide +kernel
theorem gl_63 : gln 63 = 80 := by decide +kernel
theorem gl_64 : gln 64 = 80 := by decide +kernel
theorem gl_65 : gln 65 = 80 := by decide +kernel
theorem gl_66 : gln 66 = 6 := by decide +kernel
theorem gl_69 : gln 69 = 1200 := by decide +kernel
theorem gl_70 : gln 70 = 80 := by decide +kernel
theorem gl_71 : gln 71 = 80 := by decide +kernel
theorem gl_72 : gln 72 = 80 := by decide +kernel
theorem gl_73 : gln 73 = 80 := by decide +kernel
theorem gl_74 : gln 74 = 6 := by decide +kernel
theorem gl_76 : gln 76 = 1968 := by decide +kernel
theorem gl_77 : gln 77 = 24 := by decide +kernel
theorem gl_78 : gln 78 = 24 := by decide +kernel
theorem gl_79 : gln 79 = 24 := by decide +kernel
theorem gl_80 : gln 80 = 24 := by decide +kernel
theorem gl_82 : gln 82 = 1200 := by decide +kernel
theorem gl_83 : gln 83 = 40 := by decide +kernel
theorem gl_84 : gln 84 = 40 := by decide +kernel
theorem gl_85 : gln 85 = 40 := by decide +kernel
theorem gl_86 : gln 86 = 40 := by decide +kernel
theorem gl_88 : gln 88 = 82 := by decide +kernel
theorem gl_89 : gln 89 = 2 := by decide +kernel
theorem gl_91 : gln 91 = 82 := by decide +kernel
theorem gl_93 : gln 93 = 82 := by decide +kernel
theorem gl_94 : gln 94 = 2 := by decide +kernel
theorem gl_95 : gln 95 = 2 := by decide +kernel
theorem gl_96 : gln 96 = 8 := by decide +kernel
theorem gl_98 : gln 98 = 64 := by decide +kernel
theorem gl_100 : gln 100 = 68 := by decide +kernel
theorem gl_103 : gln 103 = 480 := by decide +kernel
theorem gl_104 : gln 104 = 8 := by decide +kernel
theorem gl_105 : gln 105 = 8 := by decide +kernel
theorem gl_106 : gln 106 = 8 := by decide +kernel
theorem gl_107 : gln 107 = 8 := by decide +kernel
theorem gl_109 : gln 109 = 640 := by decide +kernel
theorem gl_110 : gln 110 = 16 := by decide +kernel
theorem gl_111 : gln 111 = 16 := by decide +kernel
theorem gl_112 : gln 112 = 16 := by decide +kernel
theorem gl_113 : gln 113 = 16 := by decide +kernel
theorem gl_115 : gln 115 = 1280 := by decide +kernel
theorem gl_116 : gln 116 = 32 := by decide +kernel
theorem gl_117 : gln 117 = 32 := by decide +kernel
theorem gl_118 : gln 118 = 32 := by decide +kernel
theorem gl_119 : gln 119 = 32 := by decide +kernel
theorem gl_121 : gln 121 = 60 := by decide +kernel
theorem gl_123 : gln 123 = 60 := by decide +kernel
theorem gl_124 : gln 124 = 24 := by decide +kernel
theorem gl_125 : gln 125 = 78 := by decide +kernel
theorem gl_126 : gln 126 = 48 := by decide +kernel
theorem gl_128 : gln 128 = 1024 := by decide +kernel
theorem gl_131 : gln 131 = 160 := by decide +kernel
theorem gl_132 : gln 132 = 128 := by decide +kernel
theorem gl_133 : gln 133 = 200 := by decide +kernel
theorem gl_134 : gln 134 = 32000 := by decide +kernel
theorem gl_135 : gln 135 = 64000 := by decide +kernel
theorem gl_136 : gln 136 = 2 := by decide +kernel
theorem gl_137 : gln 137 = 64000 := by decide +kernel
theorem gl_138 : gln 138 = 8 := by decide +kernel
theorem gl_139 : gln 139 = 128 := by decide +kernel
theorem gl_140 : gln 140 = 300 := by decide +kernel
theorem gl_141 : gln 141 = 40 := by decide +kernel
theorem gl_142 : gln 142 = 40 := by decide +kernel
theorem gl_143 : gln 143 = 40 := by decide +kernel
theorem gl_144 : gln 144 = 2400 := by decide +kernel
theorem gl_145 : gln 145 = 40 := by decide +kernel
theorem gl_146 : gln 146 = 2400 := by decide +kernel
theorem gl_147 : gln 147 = 40 := by decide +kernel
theorem gl_148 : gln 148 = 120 := by decide +kernel
theorem gl_149 : gln 149 = 3 := by decide +kernel
theorem gl_150 : gln 150 = 6400 := by decide +kernel
theorem gl_151 : gln 151 = 64 := by decide +kernel
theorem gl_152 : gln 152 = 64 := by decide +kernel
theorem gl_153 : gln 153 = 64 := by decide +kernel
theorem gl_154 : gln 154 = 64 := by decide +kernel
theorem gl_155 : gln 155 = 64 := by decide +kernel
theorem gl_156 : gln 156 = 2 := by decide +kernel
theorem gl_157 : gln 157 = 64 := by decide +kernel
theorem gl_158 : gln 158 = 64 := by decide +kernel
theorem gl_159 : gln 159 = 2 := by decide +kernel
theorem gl_160 : gln 160 = 2 := by decide +kernel
theorem gl_161 : gln 161 = 400 := by decide +kernel
theorem gl_162 : gln 162 = 24 := by decide +kernel
theorem gl_163 : gln 163 = 100 := by decide +kernel
theorem gl_164 : gln 164 = 128 := by decide +kernel
theorem gl_165 : gln 165 = 2400 := by decide +kernel
theorem gl_166 : gln 166 = 24 := by decide +kernel
theorem gl_167 : gln 167 = 4000 := by decide +kernel
theorem gl_168 : gln 168 = 40 := by decide +kernel
theorem gl_169 : gln 169 = 2 := by decide +kernel
theorem gl_170 : gln 170 = 2 := by decide +kernel
theorem gl_171 : gln 171 = 2 := by decide +kernel
theorem gl_172 : gln 172 = 2 := by decide +kernel
theorem gl_173 : gln 173 = 2 := by decide +kernel
theorem gl_174 : gln 174 = 2 := by decide +kernel
theorem gl_175 : gln 175 = 12 := by decide +kernel
theorem gl_176 : gln 176 = 18000 := by decide +kernel
theorem gl_177 : gln 177 = 180 := by decide +kernel
theorem gl_178 : gln 178 = 180 := by decide +kernel
theorem gl_179 : gln 179 = 512 := by decide +kernel
theorem gl_180 : gln 180 = 8 := by decide +kernel
theorem gl_181 : gln 181 = 8 := by decide +kernel
theorem gl_182 : gln 182 = 64 := by decide +kernel
theorem gl_183 : gln 183 = 6 := by decide +kernel
theorem gl_184 : gln 184 = 6 := by decide +kernel
theorem gl_185 : gln 185 = 6 := by decide +kernel
theorem gl_186 : gln 186 = 6 := by decide +kernel
theorem gl_187 : gln 187 = 6 := by decide +kernel
theorem gl_188 : gln 188 = 48 := by decide +kernel
theorem gl_189 : gln 189 = 1024 := by decide +kernel
theorem gl_190 : gln 190 = 32 := by decide +kernel
theorem gl_191 : gln 191 = 32 := by decide +kernel
theorem gl_192 : gln 192 = 32 := by decide +kernel
theorem gl_193 : gln 193 = 1280 := by decide +kernel
theorem gl_194 : gln 194 = 32 := by decide +kernel
theorem gl_195 : gln 195 = 6 := by decide +kernel
theorem gl_196 : gln 196 = 6 := by decide +kernel
theorem gl_197 : gln 197 = 6 := by decide +kernel
theorem gl_198 : gln 198 = 6 := by decide +kernel
theorem gl_199 : gln 199 = 6 := by decide +kernel
theorem gl_200 : gln 200 = 6 := by decide +kernel
theorem gl_201 : gln 201 = 6 := by decide +kernel
theorem gl_202 : gln 202 = 6 := by decide +kernel
theorem gl_203 : gln 203 = 4 := by decide +kernel
theorem gl_204 : gln 204 = 17 := by decide +kernel
theorem gl_205 : gln 205 = 17 := by decide +kernel
theorem gl_206 : gln 206 = 17 := by decide +kernel
theorem gl_207 : gln 207 = 680 := by decide +kernel
theorem gl_208 : gln 208 = 200 := by decide +kernel
theorem gl_209 : gln 209 = 2 := by decide +kernel
theorem gl_210 : gln 210 = 2 := by decide +kernel
theorem gl_211 : gln 211 = 2 := by decide +kernel
theorem gl_212 : gln 212 = 8 := by decide +kernel
theorem gl_213 : gln 213 = 64 := by decide +kernel
theorem gl_214 : gln 214 = 4 := by decide +kernel
theorem gl_215 : gln 215 = 4800 := by decide +kernel
theorem gl_216 : gln 216 = 40 := by decide +kernel
theorem gl_217 : gln 217 = 40 := by decide +kernel
theorem gl_218 : gln 218 = 24 := by decide +kernel
theorem gl_219 : gln 219 = 24 := by decide +kernel
theorem gl_220 : gln 220 = 24 := by decide +kernel
theorem gl_221 : gln 221 = 512 := by decide +kernel
theorem gl_100000 : gln 100000 = 16 := by decide +kernel
theorem gl_100001 : gln 100001 = 9 := by decide +kernel
theorem gl_100002 : gln 100002 = 228 := by decide +kernel
theorem nI_mm {a b : Nat} (h : b ≤ a) : nI a + -nI b = nI (a - b) := by
  rw [← pk_sub h, Int32.sub_eq_add_neg]
theorem jrem_N {a d : Nat} (ha : a < 2 ^ 31) (h0 : 0 < d) (hd : d < 2 ^ 31) : jrem (nI a) (nI d) = nI (a % d) := pk_rem ha h0 hd
theorem jshl_N {n k : Nat} (hk : k < 32) (h : n * 2 ^ k < 2 ^ 32) : jshl (nI n) (nI k) = nI (n * 2 ^ k) := pk_shlN _ k (s_l k hk) h
theorem jshr_N {n k : Nat} (h : n < 2 ^ 31) (hk : k < 32) : jshr (nI n) (nI k) = nI (n / 2 ^ k) := pk_shrN h _ k (s_l k hk)
theorem jushr_N {n k : Nat} (h : n < 2 ^ 32) (hk : k < 32) : jushr (nI n) (nI k) = nI (n / 2 ^ k) := pk_ushrN h _ k (s_u k hk)
theorem jmin_N {a b : Nat} (ha : a < 2 ^ 31) (hb : b < 2 ^ 31) : jmin (nI a) (nI b) = nI (min a b) := by
  rcases Nat.lt_or_ge b a with q | q
  · rw [Nat.min_eq_right (by omega)]; simp (disch := omega) only [jmin, nI_leI, nI_ltI, if_pos, if_neg]
  · rw [Nat.min_eq_left q]; simp (disch := omega) only [jmin, nI_leI, nI_ltI, if_pos, if_neg]
theorem jmax_N {a b : Nat} (ha : a < 2 ^ 31) (hb : b < 2 ^ 31) : jmax (nI a) (nI b) = nI (max a b) := by
  rcases Nat.lt_or_ge a b with q | q
  · rw [Nat.max_eq_right (by omega)]; simp (disch := omega) only [jmax, nI_leI, nI_ltI, if_pos, if_neg]
  · rw [Nat.max_eq_left q]
    simp (disch := omega) only [jmax, nI_leI, nI_ltI, if_pos, if_neg]
theorem an_p (n k : Nat) : nI n &&& nI (2 ^ k - 1) = nI (n % 2 ^ k) := by rw [nx_and, Nat.and_two_pow_sub_one_eq_mod]
theorem an_1 (n : Nat) : nI n &&& nI 1 = nI (n % 2) := an_p n 1
theorem an_3 (n : Nat) : nI n &&& nI 3 = nI (n % 4) := an_p n 2
theorem an_7 (n : Nat) : nI n &&& nI 7 = nI (n % 8) := an_p n 3
theorem an_15 (n : Nat) : nI n &&& nI 15 = nI (n % 16) := an_p n 4
theorem an_31 (n : Nat) : nI n &&& nI 31 = nI (n % 32) := an_p n 5
theorem an_63 (n : Nat) : nI n &&& nI 63 = nI (n % 64) := an_p n 6
theorem an_127 (n : Nat) : nI n &&& nI 127 = nI (n % 128) := an_p n 7
theorem an_255 (n : Nat) : nI n &&& nI 255 = nI (n % 256) := an_p n 8
theorem an_1023 (n : Nat) : nI n &&& nI 1023 = nI (n % 1024) := an_p n 10
theorem an_2047 (n : Nat) : nI n &&& nI 2047 = nI (n % 2048) := an_p n 11
theorem an_16383 (n : Nat) : nI n &&& nI 16383 = nI (n % 16384) := an_p n 14
theorem an_65535 (n : Nat) : nI n &&& nI 65535 = nI (n % 65536) := an_p n 16
theorem rdI {μ : Mem} {a k c j : Nat} {x : Int32} : (setI μ a k x).1 c j = if c = a ∧ j = k then x else μ.1 c j := by
  by_cases h : c = a
  · subst h
    rw [setI_s]
    by_cases e : j = k
    · subst e; rw [gup_s, if_pos ⟨rfl, rfl⟩]
    · rw [gup_o e, if_neg (fun q => e q.2)]
  · rw [setI_o h, if_neg (fun q => h q.1)]
theorem rdW {μ : Mem} {a c j : Nat} {f : Nat → Int32} : (setW μ a f).1 c j = if c = a then f j else μ.1 c j := by
  by_cases h : c = a
  · subst h; rw [setW_s, if_pos rfl]
  · rw [setW_o h, if_neg h]
theorem rdL {μ : Mem} {a k : Nat} {x : Int64} : (setL μ a k x).1 = μ.1 := rfl
theorem rdI2 {μ : Mem} {a k : Nat} {x : Int32} : (setI μ a k x).2 = μ.2 := rfl
theorem rdW2 {μ : Mem} {a : Nat} {f : Nat → Int32} : (setW μ a f).2 = μ.2 := rfl
theorem ldA_N {a i : Nat} {μ : Mem} (h : i < gln a) : ldA a (nI i) μ = some (μ.1 a i) := by
  have hn := gln_le a
  unfold ldA
  rw [if_pos (inb_nI h hn), nI_clamp (by omega)]
theorem stA_N {a i : Nat} {x : Int32} {μ : Mem} (h : i < gln a) : stA a (nI i) x μ = some (setI μ a i x) := by
  have hn := gln_le a
  unfold stA
  rw [if_pos (inb_nI h hn), nI_clamp (by omega)]
theorem stB_N {a i : Nat} {x : Int32} {μ : Mem} (h : i < gln a) : stB a (nI i) x μ = some (setI μ a i x.toInt8.toInt32) := by
  have hn := gln_le a
  unfold stB
  rw [if_pos (inb_nI h hn), nI_clamp (by omega)]
theorem stZ_N {a i : Nat} {x : Int32} {μ : Mem} (h : i < gln a) : stZ a (nI i) x μ = some (setI μ a i (x &&& 1)) := by
  have hn := gln_le a
  unfold stZ
  rw [if_pos (inb_nI h hn), nI_clamp (by omega)]
theorem pfZ_0 {a k : Nat} {μ : Mem} : pfZ a k (nI 0) μ = some (setI μ a k (nI 0)) := rfl
theorem pfZ_1 {a k : Nat} {μ : Mem} : pfZ a k (nI 1) μ = some (setI μ a k (nI 1)) := rfl
theorem rtZ_0 {μ : Mem} : rtZ (nI 0) μ = some (μ, nI 0) := rfl
theorem rtZ_1 {μ : Mem} : rtZ (nI 1) μ = some (μ, nI 1) := rfl
theorem acp_N {a b s d n : Nat} {μ : Mem} (h1 : s + n ≤ gln a) (h2 : d + n ≤ gln b) : acp a (nI s) b (nI d) (nI n) μ = some (setW μ b (va_cpy (μ.1 a) (μ.1 b) s d n)) := by
  have ha := gln_le a
  have hb := gln_le b
  unfold acp
  rw [nI_clamp (by omega), nI_clamp (by omega), nI_clamp (by omega), if_pos ⟨⟨nI_pos (by omega), nI_pos (by omega), nI_pos (by omega)⟩, h1, h2⟩]
theorem wp_some_iff {β : Type} {x : β} {Q : β → Prop} : wp (some x) Q ↔ Q x := ⟨fun ⟨r, h, q⟩ => by cases h; exact q, fun h => ⟨x, rfl, h⟩⟩
theorem wp_eq {β : Type} {o : Option β} {x : β} : wp o (fun r => r = x) → o = some x := fun ⟨r, h, q⟩ => by rw [h, q]
theorem wp_for {α β γ : Type} {F : (α → Option β) → α → Option β} {Q : β → Prop} (st : Nat → γ → α) (P : Nat → γ → Prop) (N : Nat) (hN : N < 70000) (m : γ) (x : α) (hx : x = st 0 m) (h0 : P 0 m) (hs : ∀ (self : α → Option β) (i : Nat) (m : γ), i < N → P i m → (∀ m', P (i + 1) m' → wp (self (st (i + 1) m')) Q) → wp (F self (st i m)) Q) (hf : ∀ (self : α → Option β) (m : γ), P N m → wp (F self (st N m)) Q) : wp (fixN F gF x) Q := by
  subst hx
  refine wp_loop (I := fun i x => ∃ m, x = st i m ∧ P i m) N (fun self i x hi hx hk => ?_) (fun self x hx => ?_) gF 0 _ (Nat.zero_le _) (gF_pos (by omega)) ⟨m, rfl, h0⟩
  · obtain ⟨m, rfl, h⟩ := hx
    exact hs self i m hi h (fun m' h' => hk _ ⟨m', rfl, h'⟩)
  · obtain ⟨m, rfl, h⟩ := hx
    exact hf self m h
/-! frames -/
def Fr (P : Nat → Nat → Prop) (μ m : Mem) : Prop := (∀ c k, ¬ P c k → m.1 c k = μ.1 c k) ∧ m.2 = μ.2
theorem Fr.rf {P : Nat → Nat → Prop} {μ : Mem} : Fr P μ μ := ⟨fun _ _ _ => rfl, rfl⟩
theorem Fr.tr {P P1 P2 : Nat → Nat → Prop} {μ m m2 : Mem} (h : Fr P1 μ m) (h2 : Fr P2 m m2) (q1 : ∀ c k, P1 c k → P c k) (q2 : ∀ c k, P2 c k → P c k) : Fr P μ m2 :=
  ⟨fun c k hc => (h2.1 c k (fun q => hc (q2 c k q))).trans (h.1 c k (fun q => hc (q1 c k q))), h2.2.trans h.2⟩
theorem Fr.tr' {P : Nat → Nat → Prop} {μ m m2 : Mem} (h : Fr P μ m) (h2 : Fr P m m2) : Fr P μ m2 := h.tr h2 (fun _ _ q => q) (fun _ _ q => q)
theorem Fr.mono {P P1 : Nat → Nat → Prop} {μ m : Mem} (h : Fr P1 μ m) (q1 : ∀ c k, P1 c k → P c k) : Fr P μ m := ⟨fun c k hc => h.1 c k (fun q => hc (q1 c k q)), h.2⟩
theorem Fr.sI {P : Nat → Nat → Prop} {μ : Mem} {a k : Nat} {x : Int32} (h : P a k) : Fr P μ (setI μ a k x) :=
  ⟨fun c j hc => by rw [rdI, if_neg (fun q => hc (by rw [q.1, q.2]; exact h))], rfl⟩
theorem Fr.sW {P : Nat → Nat → Prop} {μ : Mem} {a : Nat} {f : Nat → Int32} (h : ∀ k, P a k) : Fr P μ (setW μ a f) :=
  ⟨fun c j hc => by rw [rdW, if_neg (fun q => hc (by rw [q]; exact h j))], rfl⟩
theorem Fr.pI {P : Nat → Nat → Prop} {μ m : Mem} {a k : Nat} {x : Int32} (h : Fr P μ m) (q : P a k) : Fr P μ (setI m a k x) := h.tr' (Fr.sI q)
theorem Fr.pW {P : Nat → Nat → Prop} {μ m : Mem} {a : Nat} {f : Nat → Int32} (h : Fr P μ m) (q : ∀ k, P a k) : Fr P μ (setW m a f) := h.tr' (Fr.sW q)
theorem Off.fr {a : Nat} {μ m : Mem} (h : Off [a, a + 1] μ m) : Fr (fun c _ => c = a ∨ c = a + 1) μ m :=
  ⟨fun c k hc => by rw [h.1 c (fun q => hc (by simpa using q))], h.2⟩
/-- the frame of Bytes -/
abbrev FB (a : Nat) : Nat → Nat → Prop := fun c _ => c = a ∨ c = a + 1
theorem byv_nat (n : Nat) : byv (nI n) = n % 256 := by
  unfold byv
  rw [show (nI n).toBitVec = BitVec.ofNat 32 n from rfl, BitVec.toNat_ofNat]
  omega
theorem Byt.fr {μ m : Mem} {a : Nat} {bs : List Nat} {P : Nat → Nat → Prop} (h : Byt μ a bs) (ho : Fr P μ m) (h1 : ¬ P a 1) (h2 : ∀ k, ¬ P (a + 1) k) : Byt m a bs := by
  obtain ⟨b1, b2, b3, b4⟩ := h
  exact ⟨by rw [ho.1 a 1 h1]; exact b1, b2, fun i hi => by rw [ho.1 (a + 1) i (h2 i)]; exact b3 i hi, b4⟩
