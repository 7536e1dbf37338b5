theorem jg_0 : jw_tag 0 = 11 := by decide +kernel
theorem jl_0 : jw_len 0 = 11 := by decide +kernel
theorem jg_1 : jw_tag 1 = 6 := by decide +kernel
theorem jl_1 : jw_len 1 = 3 := by decide +kernel
theorem jg_2 : jw_tag 2 = 20 := by decide +kernel
theorem jl_2 : jw_len 2 = 8 := by decide +kernel
theorem jg_3 : jw_tag 3 = 20 := by decide +kernel
theorem jl_3 : jw_len 3 = 8 := by decide +kernel
theorem jg_4 : jw_tag 4 = 20 := by decide +kernel
theorem jl_4 : jw_len 4 = 320 := by decide +kernel
theorem jg_5 : jw_tag 5 = 4 := by decide +kernel
theorem jl_5 : jw_len 5 = 8 := by decide +kernel
theorem jg_6 : jw_tag 6 = 21 := by decide +kernel
theorem jl_6 : jw_len 6 = 600 := by decide +kernel
theorem jg_7 : jw_tag 7 = 20 := by decide +kernel
theorem jl_7 : jw_len 7 = 3 := by decide +kernel
theorem jg_8 : jw_tag 8 = 20 := by decide +kernel
theorem jl_8 : jw_len 8 = 7 := by decide +kernel
theorem jg_9 : jw_tag 9 = 7 := by decide +kernel
theorem jl_9 : jw_len 9 = 6 := by decide +kernel
theorem jg_10 : jw_tag 10 = 9 := by decide +kernel
theorem jl_10 : jw_len 10 = 11 := by decide +kernel
theorem jg_11 : jw_tag 11 = 20 := by decide +kernel
theorem jl_11 : jw_len 11 = 7 := by decide +kernel
theorem jg_12 : jw_tag 12 = 20 := by decide +kernel
theorem jl_12 : jw_len 12 = 49 := by decide +kernel
theorem jg_13 : jw_tag 13 = 20 := by decide +kernel
theorem jl_13 : jw_len 13 = 49 := by decide +kernel
theorem jg_14 : jw_tag 14 = 20 := by decide +kernel
theorem jl_14 : jw_len 14 = 49 := by decide +kernel
theorem jg_15 : jw_tag 15 = 20 := by decide +kernel
theorem jl_15 : jw_len 15 = 6 := by decide +kernel
theorem jg_16 : jw_tag 16 = 20 := by decide +kernel
theorem jl_16 : jw_len 16 = 6 := by decide +kernel
theorem jg_17 : jw_tag 17 = 10 := by decide +kernel
theorem jl_17 : jw_len 17 = 9 := by decide +kernel
theorem jg_18 : jw_tag 18 = 20 := by decide +kernel
theorem jl_18 : jw_len 18 = 4 := by decide +kernel
theorem jg_19 : jw_tag 19 = 20 := by decide +kernel
theorem jl_19 : jw_len 19 = 4 := by decide +kernel
theorem jg_20 : jw_tag 20 = 20 := by decide +kernel
theorem jl_20 : jw_len 20 = 4 := by decide +kernel
theorem jg_21 : jw_tag 21 = 20 := by decide +kernel
theorem jl_21 : jw_len 21 = 5 := by decide +kernel
theorem jg_22 : jw_tag 22 = 20 := by decide +kernel
theorem jl_22 : jw_len 22 = 5 := by decide +kernel
theorem jg_23 : jw_tag 23 = 20 := by decide +kernel
theorem jl_23 : jw_len 23 = 4 := by decide +kernel
theorem jg_24 : jw_tag 24 = 3 := by decide +kernel
theorem jl_24 : jw_len 24 = 7 := by decide +kernel
theorem jg_25 : jw_tag 25 = 20 := by decide +kernel
theorem jl_25 : jw_len 25 = 7 := by decide +kernel
theorem jg_26 : jw_tag 26 = 20 := by decide +kernel
theorem jl_26 : jw_len 26 = 5 := by decide +kernel
theorem jg_27 : jw_tag 27 = 20 := by decide +kernel
theorem jl_27 : jw_len 27 = 5 := by decide +kernel
theorem jg_28 : jw_tag 28 = 20 := by decide +kernel
theorem jl_28 : jw_len 28 = 5 := by decide +kernel
theorem jg_29 : jw_tag 29 = 20 := by decide +kernel
theorem jl_29 : jw_len 29 = 20 := by decide +kernel
theorem jg_30 : jw_tag 30 = 1 := by decide +kernel
theorem jl_30 : jw_len 30 = 3 := by decide +kernel
theorem jg_31 : jw_tag 31 = 20 := by decide +kernel
theorem jl_31 : jw_len 31 = 7 := by decide +kernel
theorem jg_32 : jw_tag 32 = 20 := by decide +kernel
theorem jl_32 : jw_len 32 = 20 := by decide +kernel
theorem jg_33 : jw_tag 33 = 2 := by decide +kernel
theorem jl_33 : jw_len 33 = 2 := by decide +kernel
theorem jg_34 : jw_tag 34 = 20 := by decide +kernel
theorem jl_34 : jw_len 34 = 25 := by decide +kernel
theorem jg_35 : jw_tag 35 = 20 := by decide +kernel
theorem jl_35 : jw_len 35 = 5 := by decide +kernel
theorem jg_36 : jw_tag 36 = 7 := by decide +kernel
theorem jl_36 : jw_len 36 = 6 := by decide +kernel
theorem jg_37 : jw_tag 37 = 9 := by decide +kernel
theorem jl_37 : jw_len 37 = 11 := by decide +kernel
theorem jg_38 : jw_tag 38 = 20 := by decide +kernel
theorem jl_38 : jw_len 38 = 7 := by decide +kernel
theorem jg_39 : jw_tag 39 = 20 := by decide +kernel
theorem jl_39 : jw_len 39 = 49 := by decide +kernel
theorem jg_40 : jw_tag 40 = 20 := by decide +kernel
theorem jl_40 : jw_len 40 = 49 := by decide +kernel
theorem jg_41 : jw_tag 41 = 20 := by decide +kernel
theorem jl_41 : jw_len 41 = 49 := by decide +kernel
theorem jg_42 : jw_tag 42 = 20 := by decide +kernel
theorem jl_42 : jw_len 42 = 6 := by decide +kernel
theorem jg_43 : jw_tag 43 = 20 := by decide +kernel
theorem jl_43 : jw_len 43 = 6 := by decide +kernel
theorem jg_44 : jw_tag 44 = 10 := by decide +kernel
theorem jl_44 : jw_len 44 = 9 := by decide +kernel
theorem jg_45 : jw_tag 45 = 20 := by decide +kernel
theorem jl_45 : jw_len 45 = 4 := by decide +kernel
theorem jg_46 : jw_tag 46 = 20 := by decide +kernel
theorem jl_46 : jw_len 46 = 4 := by decide +kernel
theorem jg_47 : jw_tag 47 = 20 := by decide +kernel
theorem jl_47 : jw_len 47 = 4 := by decide +kernel
theorem jg_48 : jw_tag 48 = 20 := by decide +kernel
theorem jl_48 : jw_len 48 = 5 := by decide +kernel
theorem jg_49 : jw_tag 49 = 20 := by decide +kernel
theorem jl_49 : jw_len 49 = 5 := by decide +kernel
theorem jg_50 : jw_tag 50 = 20 := by decide +kernel
theorem jl_50 : jw_len 50 = 4 := by decide +kernel
theorem jg_51 : jw_tag 51 = 3 := by decide +kernel
theorem jl_51 : jw_len 51 = 7 := by decide +kernel
theorem jg_52 : jw_tag 52 = 20 := by decide +kernel
theorem jl_52 : jw_len 52 = 7 := by decide +kernel
theorem jg_53 : jw_tag 53 = 20 := by decide +kernel
theorem jl_53 : jw_len 53 = 5 := by decide +kernel
theorem jg_54 : jw_tag 54 = 20 := by decide +kernel
theorem jl_54 : jw_len 54 = 5 := by decide +kernel
theorem jg_55 : jw_tag 55 = 20 := by decide +kernel
theorem jl_55 : jw_len 55 = 5 := by decide +kernel
theorem jg_56 : jw_tag 56 = 20 := by decide +kernel
theorem jl_56 : jw_len 56 = 20 := by decide +kernel
theorem jg_57 : jw_tag 57 = 1 := by decide +kernel
theorem jl_57 : jw_len 57 = 3 := by decide +kernel
theorem jg_58 : jw_tag 58 = 20 := by decide +kernel
theorem jl_58 : jw_len 58 = 7 := by decide +kernel
theorem jg_59 : jw_tag 59 = 20 := by decide +kernel
theorem jl_59 : jw_len 59 = 20 := by decide +kernel
theorem jg_60 : jw_tag 60 = 2 := by decide +kernel
theorem jl_60 : jw_len 60 = 2 := by decide +kernel
theorem jg_61 : jw_tag 61 = 20 := by decide +kernel
theorem jl_61 : jw_len 61 = 25 := by decide +kernel
theorem jg_62 : jw_tag 62 = 20 := by decide +kernel
theorem jl_62 : jw_len 62 = 5 := by decide +kernel
theorem jg_63 : jw_tag 63 = 23 := by decide +kernel
theorem jl_63 : jw_len 63 = 2 := by decide +kernel
theorem jg_64 : jw_tag 64 = 7 := by decide +kernel
theorem jl_64 : jw_len 64 = 6 := by decide +kernel
theorem jg_65 : jw_tag 65 = 9 := by decide +kernel
theorem jl_65 : jw_len 65 = 11 := by decide +kernel
theorem jg_66 : jw_tag 66 = 20 := by decide +kernel
theorem jl_66 : jw_len 66 = 7 := by decide +kernel
theorem jg_67 : jw_tag 67 = 20 := by decide +kernel
theorem jl_67 : jw_len 67 = 49 := by decide +kernel
theorem jg_68 : jw_tag 68 = 20 := by decide +kernel
theorem jl_68 : jw_len 68 = 49 := by decide +kernel
theorem jg_69 : jw_tag 69 = 20 := by decide +kernel
theorem jl_69 : jw_len 69 = 49 := by decide +kernel
theorem jg_70 : jw_tag 70 = 20 := by decide +kernel
theorem jl_70 : jw_len 70 = 6 := by decide +kernel
theorem jg_71 : jw_tag 71 = 20 := by decide +kernel
theorem jl_71 : jw_len 71 = 6 := by decide +kernel
theorem jg_72 : jw_tag 72 = 10 := by decide +kernel
theorem jl_72 : jw_len 72 = 9 := by decide +kernel
theorem jg_73 : jw_tag 73 = 20 := by decide +kernel
theorem jl_73 : jw_len 73 = 4 := by decide +kernel
theorem jg_74 : jw_tag 74 = 20 := by decide +kernel
theorem jl_74 : jw_len 74 = 4 := by decide +kernel
theorem jg_75 : jw_tag 75 = 20 := by decide +kernel
theorem jl_75 : jw_len 75 = 4 := by decide +kernel
theorem jg_76 : jw_tag 76 = 20 := by decide +kernel
theorem jl_76 : jw_len 76 = 5 := by decide +kernel
theorem jg_77 : jw_tag 77 = 20 := by decide +kernel
theorem jl_77 : jw_len 77 = 5 := by decide +kernel
theorem jg_78 : jw_tag 78 = 20 := by decide +kernel
theorem jl_78 : jw_len 78 = 4 := by decide +kernel
theorem jg_79 : jw_tag 79 = 3 := by decide +kernel
theorem jl_79 : jw_len 79 = 7 := by decide +kernel
theorem jg_80 : jw_tag 80 = 20 := by decide +kernel
theorem jl_80 : jw_len 80 = 7 := by decide +kernel
theorem jg_81 : jw_tag 81 = 20 := by decide +kernel
theorem jl_81 : jw_len 81 = 5 := by decide +kernel
theorem jg_82 : jw_tag 82 = 20 := by decide +kernel
theorem jl_82 : jw_len 82 = 5 := by decide +kernel
theorem jg_83 : jw_tag 83 = 20 := by decide +kernel
theorem jl_83 : jw_len 83 = 5 := by decide +kernel
theorem jg_84 : jw_tag 84 = 20 := by decide +kernel
theorem jl_84 : jw_len 84 = 20 := by decide +kernel
theorem jg_85 : jw_tag 85 = 1 := by decide +kernel
theorem jl_85 : jw_len 85 = 3 := by decide +kernel
theorem jg_86 : jw_tag 86 = 20 := by decide +kernel
theorem jl_86 : jw_len 86 = 7 := by decide +kernel
theorem jg_87 : jw_tag 87 = 20 := by decide +kernel
theorem jl_87 : jw_len 87 = 20 := by decide +kernel
theorem jg_88 : jw_tag 88 = 2 := by decide +kernel
theorem jl_88 : jw_len 88 = 2 := by decide +kernel
theorem jg_89 : jw_tag 89 = 20 := by decide +kernel
theorem jl_89 : jw_len 89 = 25 := by decide +kernel
theorem jg_90 : jw_tag 90 = 20 := by decide +kernel
theorem jl_90 : jw_len 90 = 5 := by decide +kernel
theorem jg_91 : jw_tag 91 = 7 := by decide +kernel
theorem jl_91 : jw_len 91 = 6 := by decide +kernel
theorem jg_92 : jw_tag 92 = 9 := by decide +kernel
theorem jl_92 : jw_len 92 = 11 := by decide +kernel
theorem jg_93 : jw_tag 93 = 20 := by decide +kernel
theorem jl_93 : jw_len 93 = 7 := by decide +kernel
theorem jg_94 : jw_tag 94 = 20 := by decide +kernel
theorem jl_94 : jw_len 94 = 49 := by decide +kernel
theorem jg_95 : jw_tag 95 = 20 := by decide +kernel
theorem jl_95 : jw_len 95 = 49 := by decide +kernel
theorem jg_96 : jw_tag 96 = 20 := by decide +kernel
theorem jl_96 : jw_len 96 = 49 := by decide +kernel
theorem jg_97 : jw_tag 97 = 20 := by decide +kernel
theorem jl_97 : jw_len 97 = 6 := by decide +kernel
theorem jg_98 : jw_tag 98 = 20 := by decide +kernel
theorem jl_98 : jw_len 98 = 6 := by decide +kernel
theorem jg_99 : jw_tag 99 = 10 := by decide +kernel
theorem jl_99 : jw_len 99 = 9 := by decide +kernel
theorem jg_100 : jw_tag 100 = 20 := by decide +kernel
theorem jl_100 : jw_len 100 = 4 := by decide +kernel
theorem jg_101 : jw_tag 101 = 20 := by decide +kernel
theorem jl_101 : jw_len 101 = 4 := by decide +kernel
theorem jg_102 : jw_tag 102 = 20 := by decide +kernel
theorem jl_102 : jw_len 102 = 4 := by decide +kernel
theorem jg_103 : jw_tag 103 = 20 := by decide +kernel
theorem jl_103 : jw_len 103 = 5 := by decide +kernel
theorem jg_104 : jw_tag 104 = 20 := by decide +kernel
theorem jl_104 : jw_len 104 = 5 := by decide +kernel
theorem jg_105 : jw_tag 105 = 20 := by decide +kernel
theorem jl_105 : jw_len 105 = 4 := by decide +kernel
theorem jg_106 : jw_tag 106 = 3 := by decide +kernel
theorem jl_106 : jw_len 106 = 7 := by decide +kernel
theorem jg_107 : jw_tag 107 = 20 := by decide +kernel
theorem jl_107 : jw_len 107 = 7 := by decide +kernel
theorem jg_108 : jw_tag 108 = 20 := by decide +kernel
theorem jl_108 : jw_len 108 = 5 := by decide +kernel
theorem jg_109 : jw_tag 109 = 20 := by decide +kernel
theorem jl_109 : jw_len 109 = 5 := by decide +kernel
theorem jg_110 : jw_tag 110 = 20 := by decide +kernel
theorem jl_110 : jw_len 110 = 5 := by decide +kernel
theorem jg_111 : jw_tag 111 = 20 := by decide +kernel
theorem jl_111 : jw_len 111 = 20 := by decide +kernel
theorem jg_112 : jw_tag 112 = 1 := by decide +kernel
theorem jl_112 : jw_len 112 = 3 := by decide +kernel
theorem jg_113 : jw_tag 113 = 20 := by decide +kernel
theorem jl_113 : jw_len 113 = 7 := by decide +kernel
theorem jg_114 : jw_tag 114 = 20 := by decide +kernel
theorem jl_114 : jw_len 114 = 20 := by decide +kernel
theorem jg_115 : jw_tag 115 = 2 := by decide +kernel
theorem jl_115 : jw_len 115 = 2 := by decide +kernel
theorem jg_116 : jw_tag 116 = 20 := by decide +kernel
theorem jl_116 : jw_len 116 = 25 := by decide +kernel
theorem jg_117 : jw_tag 117 = 20 := by decide +kernel
theorem jl_117 : jw_len 117 = 5 := by decide +kernel
theorem jg_118 : jw_tag 118 = 22 := by decide +kernel
theorem jl_118 : jw_len 118 = 2 := by decide +kernel
theorem jg_119 : jw_tag 119 = 8 := by decide +kernel
theorem jl_119 : jw_len 119 = 9 := by decide +kernel
theorem jg_120 : jw_tag 120 = 20 := by decide +kernel
theorem jl_120 : jw_len 120 = 5 := by decide +kernel
theorem jg_121 : jw_tag 121 = 20 := by decide +kernel
theorem jl_121 : jw_len 121 = 28 := by decide +kernel
theorem jg_122 : jw_tag 122 = 20 := by decide +kernel
theorem jl_122 : jw_len 122 = 210 := by decide +kernel
theorem jg_123 : jw_tag 123 = 5 := by decide +kernel
theorem jl_123 : jw_len 123 = 6 := by decide +kernel
theorem jg_124 : jw_tag 124 = 20 := by decide +kernel
theorem jl_124 : jw_len 124 = 64 := by decide +kernel
theorem jg_125 : jw_tag 125 = 0 := by decide +kernel
theorem jl_125 : jw_len 125 = 3 := by decide +kernel
theorem jg_126 : jw_tag 126 = 20 := by decide +kernel
theorem jl_126 : jw_len 126 = 16 := by decide +kernel
theorem jg_127 : jw_tag 127 = 12 := by decide +kernel
theorem jl_127 : jw_len 127 = 35 := by decide +kernel
theorem jg_128 : jw_tag 128 = 20 := by decide +kernel
theorem jl_128 : jw_len 128 = 8 := by decide +kernel
theorem jg_129 : jw_tag 129 = 20 := by decide +kernel
theorem jl_129 : jw_len 129 = 8 := by decide +kernel
theorem jg_130 : jw_tag 130 = 20 := by decide +kernel
theorem jl_130 : jw_len 130 = 320 := by decide +kernel
theorem jg_131 : jw_tag 131 = 20 := by decide +kernel
theorem jl_131 : jw_len 131 = 104 := by decide +kernel
theorem jg_132 : jw_tag 132 = 20 := by decide +kernel
theorem jl_132 : jw_len 132 = 104 := by decide +kernel
theorem jg_133 : jw_tag 133 = 20 := by decide +kernel
theorem jl_133 : jw_len 133 = 104 := by decide +kernel
theorem jg_134 : jw_tag 134 = 20 := by decide +kernel
theorem jl_134 : jw_len 134 = 600 := by decide +kernel
theorem jg_135 : jw_tag 135 = 20 := by decide +kernel
theorem jl_135 : jw_len 135 = 49 := by decide +kernel
theorem jg_136 : jw_tag 136 = 20 := by decide +kernel
theorem jl_136 : jw_len 136 = 49 := by decide +kernel
theorem jg_137 : jw_tag 137 = 20 := by decide +kernel
theorem jl_137 : jw_len 137 = 7 := by decide +kernel
theorem jg_138 : jw_tag 138 = 20 := by decide +kernel
theorem jl_138 : jw_len 138 = 5 := by decide +kernel
theorem jg_139 : jw_tag 139 = 20 := by decide +kernel
theorem jl_139 : jw_len 139 = 5 := by decide +kernel
theorem jg_140 : jw_tag 140 = 20 := by decide +kernel
theorem jl_140 : jw_len 140 = 5 := by decide +kernel
theorem jg_141 : jw_tag 141 = 20 := by decide +kernel
theorem jl_141 : jw_len 141 = 196 := by decide +kernel
theorem jg_142 : jw_tag 142 = 20 := by decide +kernel
theorem jl_142 : jw_len 142 = 14 := by decide +kernel
theorem jg_143 : jw_tag 143 = 20 := by decide +kernel
theorem jl_143 : jw_len 143 = 5 := by decide +kernel
theorem jg_144 : jw_tag 144 = 22 := by decide +kernel
theorem jl_144 : jw_len 144 = 2 := by decide +kernel
theorem jg_145 : jw_tag 145 = 20 := by decide +kernel
theorem jl_145 : jw_len 145 = 208 := by decide +kernel
theorem jg_146 : jw_tag 146 = 20 := by decide +kernel
theorem jl_146 : jw_len 146 = 208 := by decide +kernel
theorem jg_147 : jw_tag 147 = 20 := by decide +kernel
theorem jl_147 : jw_len 147 = 16 := by decide +kernel
theorem jn_9 {t : Nat} (h : jw_tag t = 9) : jw_len t = 11 := (by decide +kernel : ∀ t, t < 148 → jw_tag t = 9 → jw_len t = 11) t (jw_lay_lt h (by decide)) h
theorem jn_10 {t : Nat} (h : jw_tag t = 10) : jw_len t = 9 := (by decide +kernel : ∀ t, t < 148 → jw_tag t = 10 → jw_len t = 9) t (jw_lay_lt h (by decide)) h
theorem jn_3 {t : Nat} (h : jw_tag t = 3) : jw_len t = 7 := (by decide +kernel : ∀ t, t < 148 → jw_tag t = 3 → jw_len t = 7) t (jw_lay_lt h (by decide)) h
theorem jn_1 {t : Nat} (h : jw_tag t = 1) : jw_len t = 3 := (by decide +kernel : ∀ t, t < 148 → jw_tag t = 1 → jw_len t = 3) t (jw_lay_lt h (by decide)) h
theorem jn_2 {t : Nat} (h : jw_tag t = 2) : jw_len t = 2 := (by decide +kernel : ∀ t, t < 148 → jw_tag t = 2 → jw_len t = 2) t (jw_lay_lt h (by decide)) h
theorem jn_7 {t : Nat} (h : jw_tag t = 7) : jw_len t = 6 := (by decide +kernel : ∀ t, t < 148 → jw_tag t = 7 → jw_len t = 6) t (jw_lay_lt h (by decide)) h
theorem jf_1_1 {t : Nat} (h : jw_tag t = 1) : jw_rf t 1 = t + 1 ∧ jw_tag (t + 1) = 20 ∧ jw_len (t + 1) = 7 := (by decide +kernel : ∀ t, t < 148 → jw_tag t = 1 → jw_rf t 1 = t + 1 ∧ jw_tag (t + 1) = 20 ∧ jw_len (t + 1) = 7) t (jw_lay_lt h (by decide)) h
theorem jf_1_2 {t : Nat} (h : jw_tag t = 1) : jw_rf t 2 = t + 2 ∧ jw_tag (t + 2) = 20 ∧ jw_len (t + 2) = 20 := (by decide +kernel : ∀ t, t < 148 → jw_tag t = 1 → jw_rf t 2 = t + 2 ∧ jw_tag (t + 2) = 20 ∧ jw_len (t + 2) = 20) t (jw_lay_lt h (by decide)) h
theorem jf_2_0 {t : Nat} (h : jw_tag t = 2) : jw_rf t 0 = t + 1 ∧ jw_tag (t + 1) = 20 ∧ jw_len (t + 1) = 25 := (by decide +kernel : ∀ t, t < 148 → jw_tag t = 2 → jw_rf t 0 = t + 1 ∧ jw_tag (t + 1) = 20 ∧ jw_len (t + 1) = 25) t (jw_lay_lt h (by decide)) h
theorem jf_2_1 {t : Nat} (h : jw_tag t = 2) : jw_rf t 1 = t + 2 ∧ jw_tag (t + 2) = 20 ∧ jw_len (t + 2) = 5 := (by decide +kernel : ∀ t, t < 148 → jw_tag t = 2 → jw_rf t 1 = t + 2 ∧ jw_tag (t + 2) = 20 ∧ jw_len (t + 2) = 5) t (jw_lay_lt h (by decide)) h
theorem jf_3_2 {t : Nat} (h : jw_tag t = 3) : jw_rf t 2 = t + 1 ∧ jw_tag (t + 1) = 20 ∧ jw_len (t + 1) = 7 := (by decide +kernel : ∀ t, t < 148 → jw_tag t = 3 → jw_rf t 2 = t + 1 ∧ jw_tag (t + 1) = 20 ∧ jw_len (t + 1) = 7) t (jw_lay_lt h (by decide)) h
theorem jf_3_3 {t : Nat} (h : jw_tag t = 3) : jw_rf t 3 = t + 2 ∧ jw_tag (t + 2) = 20 ∧ jw_len (t + 2) = 5 := (by decide +kernel : ∀ t, t < 148 → jw_tag t = 3 → jw_rf t 3 = t + 2 ∧ jw_tag (t + 2) = 20 ∧ jw_len (t + 2) = 5) t (jw_lay_lt h (by decide)) h
theorem jf_3_4 {t : Nat} (h : jw_tag t = 3) : jw_rf t 4 = t + 3 ∧ jw_tag (t + 3) = 20 ∧ jw_len (t + 3) = 5 := (by decide +kernel : ∀ t, t < 148 → jw_tag t = 3 → jw_rf t 4 = t + 3 ∧ jw_tag (t + 3) = 20 ∧ jw_len (t + 3) = 5) t (jw_lay_lt h (by decide)) h
theorem jf_3_5 {t : Nat} (h : jw_tag t = 3) : jw_rf t 5 = t + 4 ∧ jw_tag (t + 4) = 20 ∧ jw_len (t + 4) = 5 := (by decide +kernel : ∀ t, t < 148 → jw_tag t = 3 → jw_rf t 5 = t + 4 ∧ jw_tag (t + 4) = 20 ∧ jw_len (t + 4) = 5) t (jw_lay_lt h (by decide)) h
theorem jf_3_6 {t : Nat} (h : jw_tag t = 3) : jw_rf t 6 = t + 5 ∧ jw_tag (t + 5) = 20 ∧ jw_len (t + 5) = 20 := (by decide +kernel : ∀ t, t < 148 → jw_tag t = 3 → jw_rf t 6 = t + 5 ∧ jw_tag (t + 5) = 20 ∧ jw_len (t + 5) = 20) t (jw_lay_lt h (by decide)) h
theorem jf_7_1 {t : Nat} (h : jw_tag t = 7) : jw_rf t 1 = t + 1 ∧ jw_tag (t + 1) = 9 ∧ jw_len (t + 1) = 11 := (by decide +kernel : ∀ t, t < 148 → jw_tag t = 7 → jw_rf t 1 = t + 1 ∧ jw_tag (t + 1) = 9 ∧ jw_len (t + 1) = 11) t (jw_lay_lt h (by decide)) h
theorem jf_7_2 {t : Nat} (h : jw_tag t = 7) : jw_rf t 2 = t + 8 ∧ jw_tag (t + 8) = 10 ∧ jw_len (t + 8) = 9 := (by decide +kernel : ∀ t, t < 148 → jw_tag t = 7 → jw_rf t 2 = t + 8 ∧ jw_tag (t + 8) = 10 ∧ jw_len (t + 8) = 9) t (jw_lay_lt h (by decide)) h
theorem jf_7_3 {t : Nat} (h : jw_tag t = 7) : jw_rf t 3 = t + 15 ∧ jw_tag (t + 15) = 3 ∧ jw_len (t + 15) = 7 := (by decide +kernel : ∀ t, t < 148 → jw_tag t = 7 → jw_rf t 3 = t + 15 ∧ jw_tag (t + 15) = 3 ∧ jw_len (t + 15) = 7) t (jw_lay_lt h (by decide)) h
theorem jf_7_4 {t : Nat} (h : jw_tag t = 7) : jw_rf t 4 = t + 21 ∧ jw_tag (t + 21) = 1 ∧ jw_len (t + 21) = 3 := (by decide +kernel : ∀ t, t < 148 → jw_tag t = 7 → jw_rf t 4 = t + 21 ∧ jw_tag (t + 21) = 1 ∧ jw_len (t + 21) = 3) t (jw_lay_lt h (by decide)) h
theorem jf_7_5 {t : Nat} (h : jw_tag t = 7) : jw_rf t 5 = t + 24 ∧ jw_tag (t + 24) = 2 ∧ jw_len (t + 24) = 2 := (by decide +kernel : ∀ t, t < 148 → jw_tag t = 7 → jw_rf t 5 = t + 24 ∧ jw_tag (t + 24) = 2 ∧ jw_len (t + 24) = 2) t (jw_lay_lt h (by decide)) h
theorem jf_9_1 {t : Nat} (h : jw_tag t = 9) : jw_rf t 1 = t + 1 ∧ jw_tag (t + 1) = 20 ∧ jw_len (t + 1) = 7 := (by decide +kernel : ∀ t, t < 148 → jw_tag t = 9 → jw_rf t 1 = t + 1 ∧ jw_tag (t + 1) = 20 ∧ jw_len (t + 1) = 7) t (jw_lay_lt h (by decide)) h
theorem jf_9_2 {t : Nat} (h : jw_tag t = 9) : jw_rf t 2 = t + 2 ∧ jw_tag (t + 2) = 20 ∧ jw_len (t + 2) = 49 := (by decide +kernel : ∀ t, t < 148 → jw_tag t = 9 → jw_rf t 2 = t + 2 ∧ jw_tag (t + 2) = 20 ∧ jw_len (t + 2) = 49) t (jw_lay_lt h (by decide)) h
theorem jf_9_3 {t : Nat} (h : jw_tag t = 9) : jw_rf t 3 = t + 3 ∧ jw_tag (t + 3) = 20 ∧ jw_len (t + 3) = 49 := (by decide +kernel : ∀ t, t < 148 → jw_tag t = 9 → jw_rf t 3 = t + 3 ∧ jw_tag (t + 3) = 20 ∧ jw_len (t + 3) = 49) t (jw_lay_lt h (by decide)) h
theorem jf_9_4 {t : Nat} (h : jw_tag t = 9) : jw_rf t 4 = t + 4 ∧ jw_tag (t + 4) = 20 ∧ jw_len (t + 4) = 49 := (by decide +kernel : ∀ t, t < 148 → jw_tag t = 9 → jw_rf t 4 = t + 4 ∧ jw_tag (t + 4) = 20 ∧ jw_len (t + 4) = 49) t (jw_lay_lt h (by decide)) h
theorem jf_9_6 {t : Nat} (h : jw_tag t = 9) : jw_rf t 6 = t + 5 ∧ jw_tag (t + 5) = 20 ∧ jw_len (t + 5) = 6 := (by decide +kernel : ∀ t, t < 148 → jw_tag t = 9 → jw_rf t 6 = t + 5 ∧ jw_tag (t + 5) = 20 ∧ jw_len (t + 5) = 6) t (jw_lay_lt h (by decide)) h
theorem jf_9_7 {t : Nat} (h : jw_tag t = 9) : jw_rf t 7 = t + 6 ∧ jw_tag (t + 6) = 20 ∧ jw_len (t + 6) = 6 := (by decide +kernel : ∀ t, t < 148 → jw_tag t = 9 → jw_rf t 7 = t + 6 ∧ jw_tag (t + 6) = 20 ∧ jw_len (t + 6) = 6) t (jw_lay_lt h (by decide)) h
theorem jf_10_1 {t : Nat} (h : jw_tag t = 10) : jw_rf t 1 = t + 1 ∧ jw_tag (t + 1) = 20 ∧ jw_len (t + 1) = 4 := (by decide +kernel : ∀ t, t < 148 → jw_tag t = 10 → jw_rf t 1 = t + 1 ∧ jw_tag (t + 1) = 20 ∧ jw_len (t + 1) = 4) t (jw_lay_lt h (by decide)) h
theorem jf_10_2 {t : Nat} (h : jw_tag t = 10) : jw_rf t 2 = t + 2 ∧ jw_tag (t + 2) = 20 ∧ jw_len (t + 2) = 4 := (by decide +kernel : ∀ t, t < 148 → jw_tag t = 10 → jw_rf t 2 = t + 2 ∧ jw_tag (t + 2) = 20 ∧ jw_len (t + 2) = 4) t (jw_lay_lt h (by decide)) h
theorem jf_10_3 {t : Nat} (h : jw_tag t = 10) : jw_rf t 3 = t + 3 ∧ jw_tag (t + 3) = 20 ∧ jw_len (t + 3) = 4 := (by decide +kernel : ∀ t, t < 148 → jw_tag t = 10 → jw_rf t 3 = t + 3 ∧ jw_tag (t + 3) = 20 ∧ jw_len (t + 3) = 4) t (jw_lay_lt h (by decide)) h
theorem jf_10_5 {t : Nat} (h : jw_tag t = 10) : jw_rf t 5 = t + 4 ∧ jw_tag (t + 4) = 20 ∧ jw_len (t + 4) = 5 := (by decide +kernel : ∀ t, t < 148 → jw_tag t = 10 → jw_rf t 5 = t + 4 ∧ jw_tag (t + 4) = 20 ∧ jw_len (t + 4) = 5) t (jw_lay_lt h (by decide)) h
theorem jf_10_6 {t : Nat} (h : jw_tag t = 10) : jw_rf t 6 = t + 5 ∧ jw_tag (t + 5) = 20 ∧ jw_len (t + 5) = 5 := (by decide +kernel : ∀ t, t < 148 → jw_tag t = 10 → jw_rf t 6 = t + 5 ∧ jw_tag (t + 5) = 20 ∧ jw_len (t + 5) = 5) t (jw_lay_lt h (by decide)) h
theorem jf_10_8 {t : Nat} (h : jw_tag t = 10) : jw_rf t 8 = t + 6 ∧ jw_tag (t + 6) = 20 ∧ jw_len (t + 6) = 4 := (by decide +kernel : ∀ t, t < 148 → jw_tag t = 10 → jw_rf t 8 = t + 6 ∧ jw_tag (t + 6) = 20 ∧ jw_len (t + 6) = 4) t (jw_lay_lt h (by decide)) h
theorem jf_11_0 : jw_rf 0 0 = 1 := by decide +kernel
theorem jf_11_1 : jw_rf 0 1 = 5 := by decide +kernel
theorem jf_11_2 : jw_rf 0 2 = 9 := by decide +kernel
theorem jf_11_3 : jw_rf 0 3 = 36 := by decide +kernel
theorem jf_11_4 : jw_rf 0 4 = 63 := by decide +kernel
theorem jf_11_5 : jw_rf 0 5 = 118 := by decide +kernel
theorem jf_11_6 : jw_rf 0 6 = 119 := by decide +kernel
theorem jf_11_7 : jw_rf 0 7 = 123 := by decide +kernel
theorem jf_11_8 : jw_rf 0 8 = 125 := by decide +kernel
theorem jf_6_0 : jw_rf 1 0 = 2 := by decide +kernel
theorem jf_6_1 : jw_rf 1 1 = 3 := by decide +kernel
theorem jf_6_2 : jw_rf 1 2 = 4 := by decide +kernel
theorem jf_4_0 : jw_rf 5 0 = 6 := by decide +kernel
theorem jf_4_6 : jw_rf 5 6 = 7 := by decide +kernel
theorem jf_4_7 : jw_rf 5 7 = 8 := by decide +kernel
theorem jf_8_0 : jw_rf 119 0 = 10 := by decide +kernel
theorem jf_8_1 : jw_rf 119 1 = 17 := by decide +kernel
theorem jf_8_2 : jw_rf 119 2 = 30 := by decide +kernel
theorem jf_8_3 : jw_rf 119 3 = 120 := by decide +kernel
theorem jf_8_4 : jw_rf 119 4 = 121 := by decide +kernel
theorem jf_8_5 : jw_rf 119 5 = 122 := by decide +kernel
theorem jf_5_0 : jw_rf 123 0 = 10 := by decide +kernel
theorem jf_5_1 : jw_rf 123 1 = 17 := by decide +kernel
theorem jf_5_2 : jw_rf 123 2 = 30 := by decide +kernel
theorem jf_5_3 : jw_rf 123 3 = 124 := by decide +kernel
theorem jf_0_0 : jw_rf 125 0 = 9 := by decide +kernel
theorem jf_0_1 : jw_rf 125 1 = 126 := by decide +kernel
theorem jf_12_2 : jw_rf 127 2 = 128 := by decide +kernel
theorem jf_12_3 : jw_rf 127 3 = 129 := by decide +kernel
theorem jf_12_4 : jw_rf 127 4 = 130 := by decide +kernel
theorem jf_12_5 : jw_rf 127 5 = 131 := by decide +kernel
theorem jf_12_6 : jw_rf 127 6 = 132 := by decide +kernel
theorem jf_12_8 : jw_rf 127 8 = 133 := by decide +kernel
theorem jf_12_9 : jw_rf 127 9 = 134 := by decide +kernel
theorem jf_12_19 : jw_rf 127 19 = 135 := by decide +kernel
theorem jf_12_20 : jw_rf 127 20 = 136 := by decide +kernel
theorem jf_12_21 : jw_rf 127 21 = 137 := by decide +kernel
theorem jf_12_22 : jw_rf 127 22 = 138 := by decide +kernel
theorem jf_12_23 : jw_rf 127 23 = 139 := by decide +kernel
theorem jf_12_24 : jw_rf 127 24 = 140 := by decide +kernel
theorem jf_12_25 : jw_rf 127 25 = 141 := by decide +kernel
theorem jf_12_26 : jw_rf 127 26 = 142 := by decide +kernel
theorem jf_12_29 : jw_rf 127 29 = 143 := by decide +kernel
theorem jf_12_30 : jw_rf 127 30 = 144 := by decide +kernel
theorem jf_12_31 : jw_rf 127 31 = 145 := by decide +kernel
theorem jf_12_32 : jw_rf 127 32 = 146 := by decide +kernel
theorem jf_12_33 : jw_rf 127 33 = 147 := by decide +kernel
theorem jv_0 : vwCl[0]? = some (RX0, TX0, 3) := rfl
set_option maxRecDepth 100000 in
theorem ji_0 : ∀ w ∈ u_ws RX0 TX0 3, w ∈ jw_tbl := by decide +kernel
theorem jv_1 : vwCl[1]? = some (RX1, TX1, 3) := rfl
set_option maxRecDepth 100000 in
theorem ji_1 : ∀ w ∈ u_ws RX1 TX1 3, w ∈ jw_tbl := by decide +kernel
theorem jv_2 : vwCl[2]? = some (RX2, TX2, 2) := rfl
set_option maxRecDepth 100000 in
theorem ji_2 : ∀ w ∈ u_ws RX2 TX2 2, w ∈ jw_tbl := by decide +kernel
theorem jv_3 : vwCl[3]? = some (RX3, TX3, 7) := rfl
set_option maxRecDepth 100000 in
theorem ji_3 : ∀ w ∈ u_ws RX3 TX3 7, w ∈ jw_tbl := by decide +kernel
theorem jv_4 : vwCl[4]? = some (RX4, TX4, 8) := rfl
set_option maxRecDepth 100000 in
theorem ji_4 : ∀ w ∈ u_ws RX4 TX4 8, w ∈ jw_tbl := by decide +kernel
theorem jv_5 : vwCl[5]? = some (RX5, TX5, 6) := rfl
set_option maxRecDepth 100000 in
theorem ji_5 : ∀ w ∈ u_ws RX5 TX5 6, w ∈ jw_tbl := by decide +kernel
theorem jv_6 : vwCl[6]? = some (RX6, TX6, 3) := rfl
set_option maxRecDepth 100000 in
theorem ji_6 : ∀ w ∈ u_ws RX6 TX6 3, w ∈ jw_tbl := by decide +kernel
theorem jv_7 : vwCl[7]? = some (RX7, TX7, 6) := rfl
set_option maxRecDepth 100000 in
theorem ji_7 : ∀ w ∈ u_ws RX7 TX7 6, w ∈ jw_tbl := by decide +kernel
theorem jv_8 : vwCl[8]? = some (RX8, TX8, 9) := rfl
set_option maxRecDepth 100000 in
theorem ji_8 : ∀ w ∈ u_ws RX8 TX8 9, w ∈ jw_tbl := by decide +kernel
theorem jv_9 : vwCl[9]? = some (RX9, TX9, 11) := rfl
set_option maxRecDepth 100000 in
theorem ji_9 : ∀ w ∈ u_ws RX9 TX9 11, w ∈ jw_tbl := by decide +kernel
theorem jv_10 : vwCl[10]? = some (RX10, TX10, 9) := rfl
set_option maxRecDepth 100000 in
theorem ji_10 : ∀ w ∈ u_ws RX10 TX10 9, w ∈ jw_tbl := by decide +kernel
theorem jv_11 : vwCl[11]? = some (RX11, TX11, 11) := rfl
set_option maxRecDepth 100000 in
theorem ji_11 : ∀ w ∈ u_ws RX11 TX11 11, w ∈ jw_tbl := by decide +kernel
theorem jv_12 : vwCl[12]? = some (RX12, TX12, 35) := rfl
set_option maxRecDepth 100000 in
theorem ji_12 : ∀ w ∈ u_ws RX12 TX12 35, w ∈ jw_tbl := by decide +kernel
abbrev jw_x0 : List Int := [7, 16, 4, 5, 4, 6, 1]
theorem js_0 : jw_sa[0]? = some ("StringsSheet$Reader", "ROOM", jw_x0) := rfl
abbrev jw_x1 : List Int := [1, 3, 3, 2, 1, 2, 3]
theorem js_1 : jw_sa[1]? = some ("StringsSheet$Reader", "NUMBERS", jw_x1) := rfl
abbrev jw_x2 : List Int := [0, 0, 0, 0, 0, 1, 1, 1, 0, 0, 0, 0, 0, 0, 0, 0, 0, 0, 0, 0, 1]
theorem js_2 : jw_sa[2]? = some ("StringsSheet$Reader", "LOWEST", jw_x2) := rfl
abbrev jw_x3 : List Int := [99, 0, 0, (-1), (-1), 20, 9, 99, 99, (-2), (-1), 0, (-1), 0, 0, (-1), 99, 0, 20, 30, 9]
theorem js_3 : jw_sa[3]? = some ("StringsSheet$Reader", "HIGHEST", jw_x3) := rfl
abbrev jw_x4 : List Int := [1, 1, 2, 6, 24, 120]
theorem js_4 : jw_sa[4]? = some ("StringsSheet$Reckoner", "FACTORIALS", jw_x4) := rfl
abbrev jw_x5 : List Int := [10, 11, 12, 13, 14]
theorem js_5 : jw_sa[5]? = some ("StringsSheet$Asks", "SIZE_BODIES", jw_x5) := rfl
abbrev jw_x6 : List Int := [20, 21, 23, 22, 22]
theorem js_6 : jw_sa[6]? = some ("StringsSheet$Asks", "MARK_BODIES", jw_x6) := rfl
theorem jw_rc (n : Int) (h : (decide (-2147483648 ≤ n) && decide (n < 2147483648)) = true) : jw_r n := by
  simp only [Bool.and_eq_true, decide_eq_true_eq] at h; exact h
theorem jw_qc (n : Int) (h : (decide (-9223372036854775808 ≤ n) && decide (n < 9223372036854775808)) = true) : jw_q n := by
  simp only [Bool.and_eq_true, decide_eq_true_eq] at h; exact h
theorem jw_xr (xs : List Int) (i : Nat) (h : xs.all (fun n => decide (-2147483648 ≤ n) && decide (n < 2147483648)) = true) : jw_r (xs.getD i 0) := by
  rw [List.getD_eq_getElem?_getD]
  cases hx : xs[i]? with
  | none => exact jw_0
  | some z => exact jw_rc z (List.all_eq_true.mp h z (List.mem_of_getElem? hx))
theorem jw_bz {v : Int} (h : v = 0 ∨ v = 1) : jw_r v := by unfold jw_r; omega
theorem jw_bb (x : Int) : -128 ≤ jw_b x ∧ jw_b x ≤ 127 := by unfold jw_b; omega
