/-! Constants, the skeleton's rows, numbers. -/
theorem b_m10 : (Int8.ofInt (-10)).toInt32 = (-10 : Int32) := by decide +kernel
theorem b_m9 : (Int8.ofInt (-9)).toInt32 = (-9 : Int32) := by decide +kernel
theorem b_m3 : (Int8.ofInt (-3)).toInt32 = (-3 : Int32) := by decide +kernel
theorem b_m2 : (Int8.ofInt (-2)).toInt32 = (-2 : Int32) := by decide +kernel
theorem b_6 : (Int8.ofInt (6)).toInt32 = nI 6 := by decide +kernel
theorem b_7 : (Int8.ofInt (7)).toInt32 = nI 7 := by decide +kernel
theorem b_8 : (Int8.ofInt (8)).toInt32 = nI 8 := by decide +kernel
theorem b_9 : (Int8.ofInt (9)).toInt32 = nI 9 := by decide +kernel
theorem b_10 : (Int8.ofInt (10)).toInt32 = nI 10 := by decide +kernel
theorem b_13 : (Int8.ofInt (13)).toInt32 = nI 13 := by decide +kernel
theorem b_16 : (Int8.ofInt (16)).toInt32 = nI 16 := by decide +kernel
theorem b_31 : (Int8.ofInt (31)).toInt32 = nI 31 := by decide +kernel
theorem b_32 : (Int8.ofInt (32)).toInt32 = nI 32 := by decide +kernel
theorem b_33 : (Int8.ofInt (33)).toInt32 = nI 33 := by decide +kernel
theorem b_37 : (Int8.ofInt (37)).toInt32 = nI 37 := by decide +kernel
theorem b_46 : (Int8.ofInt (46)).toInt32 = nI 46 := by decide +kernel
theorem b_48 : (Int8.ofInt (48)).toInt32 = nI 48 := by decide +kernel
theorem b_49 : (Int8.ofInt (49)).toInt32 = nI 49 := by decide +kernel
theorem b_57 : (Int8.ofInt (57)).toInt32 = nI 57 := by decide +kernel
theorem b_58 : (Int8.ofInt (58)).toInt32 = nI 58 := by decide +kernel
theorem b_59 : (Int8.ofInt (59)).toInt32 = nI 59 := by decide +kernel
theorem b_61 : (Int8.ofInt (61)).toInt32 = nI 61 := by decide +kernel
theorem b_63 : (Int8.ofInt (63)).toInt32 = nI 63 := by decide +kernel
theorem b_91 : (Int8.ofInt (91)).toInt32 = nI 91 := by decide +kernel
theorem b_93 : (Int8.ofInt (93)).toInt32 = nI 93 := by decide +kernel
theorem b_97 : (Int8.ofInt (97)).toInt32 = nI 97 := by decide +kernel
theorem b_98 : (Int8.ofInt (98)).toInt32 = nI 98 := by decide +kernel
theorem b_104 : (Int8.ofInt (104)).toInt32 = nI 104 := by decide +kernel
theorem b_105 : (Int8.ofInt (105)).toInt32 = nI 105 := by decide +kernel
theorem b_110 : (Int8.ofInt (110)).toInt32 = nI 110 := by decide +kernel
theorem b_111 : (Int8.ofInt (111)).toInt32 = nI 111 := by decide +kernel
theorem b_115 : (Int8.ofInt (115)).toInt32 = nI 115 := by decide +kernel
theorem b_116 : (Int8.ofInt (116)).toInt32 = nI 116 := by decide +kernel
theorem b_122 : (Int8.ofInt (122)).toInt32 = nI 122 := by decide +kernel
theorem c_m1 : Int32.ofInt (-1) = (-1 : Int32) := by decide +kernel
theorem c_0 : Int32.ofInt (0) = nI 0 := by decide +kernel
theorem c_1 : Int32.ofInt (1) = nI 1 := by decide +kernel
theorem c_2 : Int32.ofInt (2) = nI 2 := by decide +kernel
theorem c_3 : Int32.ofInt (3) = nI 3 := by decide +kernel
theorem c_4 : Int32.ofInt (4) = nI 4 := by decide +kernel
theorem c_5 : Int32.ofInt (5) = nI 5 := by decide +kernel
theorem s_128 : (Int16.ofInt (128)).toInt32 = nI 128 := by decide +kernel
theorem s_200 : (Int16.ofInt (200)).toInt32 = nI 200 := by decide +kernel
theorem s_255 : (Int16.ofInt (255)).toInt32 = nI 255 := by decide +kernel
theorem s_256 : (Int16.ofInt (256)).toInt32 = nI 256 := by decide +kernel
theorem s_257 : (Int16.ofInt (257)).toInt32 = nI 257 := by decide +kernel
theorem s_258 : (Int16.ofInt (258)).toInt32 = nI 258 := by decide +kernel
theorem s_259 : (Int16.ofInt (259)).toInt32 = nI 259 := by decide +kernel
theorem s_260 : (Int16.ofInt (260)).toInt32 = nI 260 := by decide +kernel
theorem s_261 : (Int16.ofInt (261)).toInt32 = nI 261 := by decide +kernel
theorem s_439 : (Int16.ofInt (439)).toInt32 = nI 439 := by decide +kernel
theorem s_878 : (Int16.ofInt (878)).toInt32 = nI 878 := by decide +kernel
theorem s_2195 : (Int16.ofInt (2195)).toInt32 = nI 2195 := by decide +kernel
theorem s_2634 : (Int16.ofInt (2634)).toInt32 = nI 2634 := by decide +kernel
theorem sk_0 : sk 0 = some (.inr (9, [some 1, some 6, some 9, some 19, some 29, some 91, some 101, none, some 111, some 113, some 116, some 119, none])) := rfl
theorem sk_1 : sk 1 = some (.inr (8, [some 2, none, some 3, some 4, some 5, none, none])) := rfl
theorem sk_2 : sk 2 = some (.inl (3, 200)) := rfl
theorem sk_3 : sk 3 = some (.inl (0, 200)) := rfl
theorem sk_4 : sk 4 = some (.inl (0, 200)) := rfl
theorem sk_5 : sk 5 = some (.inl (0, 200)) := rfl
theorem sk_6 : sk 6 = some (.inr (5, [some 1, some 7, none, none])) := rfl
theorem sk_7 : sk 7 = some (.inr (7, [some 8, none, none])) := rfl
theorem sk_8 : sk 8 = some (.inl (0, 16)) := rfl
theorem sk_9 : sk 9 = some (.inr (4, [some 10, some 11, some 15])) := rfl
theorem sk_10 : sk 10 = some (.inl (0, 8)) := rfl
theorem sk_11 : sk 11 = some (.inr (6, [none, none, some 12, some 13, some 14])) := rfl
theorem sk_12 : sk 12 = some (.inl (0, 10)) := rfl
theorem sk_13 : sk 13 = some (.inl (0, 320)) := rfl
theorem sk_14 : sk 14 = some (.inl (0, 20)) := rfl
theorem sk_15 : sk 15 = some (.inr (6, [none, none, some 16, some 17, some 18])) := rfl
theorem sk_16 : sk 16 = some (.inl (0, 3)) := rfl
theorem sk_17 : sk 17 = some (.inl (0, 96)) := rfl
theorem sk_18 : sk 18 = some (.inl (0, 6)) := rfl
theorem sk_19 : sk 19 = some (.inr (4, [some 20, some 21, some 25])) := rfl
theorem sk_20 : sk 20 = some (.inl (0, 8)) := rfl
theorem sk_21 : sk 21 = some (.inr (6, [none, none, some 22, some 23, some 24])) := rfl
theorem sk_22 : sk 22 = some (.inl (0, 10)) := rfl
theorem sk_23 : sk 23 = some (.inl (0, 320)) := rfl
theorem sk_24 : sk 24 = some (.inl (0, 20)) := rfl
theorem sk_25 : sk 25 = some (.inr (6, [none, none, some 26, some 27, some 28])) := rfl
theorem sk_26 : sk 26 = some (.inl (0, 3)) := rfl
theorem sk_27 : sk 27 = some (.inl (0, 96)) := rfl
theorem sk_28 : sk 28 = some (.inl (0, 6)) := rfl
theorem sk_29 : sk 29 = some (.inr (2, [some 30, none])) := rfl
theorem sk_30 : sk 30 = some (.inl (4, 6)) := rfl
theorem sk_31 : sk 31 = some (.inr (4, [some 32, some 33, some 37])) := rfl
theorem sk_32 : sk 32 = some (.inl (0, 8)) := rfl
theorem sk_33 : sk 33 = some (.inr (6, [none, none, some 34, some 35, some 36])) := rfl
theorem sk_34 : sk 34 = some (.inl (0, 10)) := rfl
theorem sk_35 : sk 35 = some (.inl (0, 320)) := rfl
theorem sk_36 : sk 36 = some (.inl (0, 20)) := rfl
theorem sk_37 : sk 37 = some (.inr (6, [none, none, some 38, some 39, some 40])) := rfl
theorem sk_38 : sk 38 = some (.inl (0, 3)) := rfl
theorem sk_39 : sk 39 = some (.inl (0, 96)) := rfl
theorem sk_40 : sk 40 = some (.inl (0, 6)) := rfl
theorem sk_41 : sk 41 = some (.inr (4, [some 42, some 43, some 47])) := rfl
theorem sk_42 : sk 42 = some (.inl (0, 8)) := rfl
theorem sk_43 : sk 43 = some (.inr (6, [none, none, some 44, some 45, some 46])) := rfl
theorem sk_44 : sk 44 = some (.inl (0, 10)) := rfl
theorem sk_45 : sk 45 = some (.inl (0, 320)) := rfl
theorem sk_46 : sk 46 = some (.inl (0, 20)) := rfl
theorem sk_47 : sk 47 = some (.inr (6, [none, none, some 48, some 49, some 50])) := rfl
theorem sk_48 : sk 48 = some (.inl (0, 3)) := rfl
theorem sk_49 : sk 49 = some (.inl (0, 96)) := rfl
theorem sk_50 : sk 50 = some (.inl (0, 6)) := rfl
theorem sk_51 : sk 51 = some (.inr (4, [some 52, some 53, some 57])) := rfl
theorem sk_52 : sk 52 = some (.inl (0, 8)) := rfl
theorem sk_53 : sk 53 = some (.inr (6, [none, none, some 54, some 55, some 56])) := rfl
theorem sk_54 : sk 54 = some (.inl (0, 10)) := rfl
theorem sk_55 : sk 55 = some (.inl (0, 320)) := rfl
theorem sk_56 : sk 56 = some (.inl (0, 20)) := rfl
theorem sk_57 : sk 57 = some (.inr (6, [none, none, some 58, some 59, some 60])) := rfl
theorem sk_58 : sk 58 = some (.inl (0, 3)) := rfl
theorem sk_59 : sk 59 = some (.inl (0, 96)) := rfl
theorem sk_60 : sk 60 = some (.inl (0, 6)) := rfl
theorem sk_61 : sk 61 = some (.inr (4, [some 62, some 63, some 67])) := rfl
theorem sk_62 : sk 62 = some (.inl (0, 8)) := rfl
theorem sk_63 : sk 63 = some (.inr (6, [none, none, some 64, some 65, some 66])) := rfl
theorem sk_64 : sk 64 = some (.inl (0, 10)) := rfl
theorem sk_65 : sk 65 = some (.inl (0, 320)) := rfl
theorem sk_66 : sk 66 = some (.inl (0, 20)) := rfl
theorem sk_67 : sk 67 = some (.inr (6, [none, none, some 68, some 69, some 70])) := rfl
theorem sk_68 : sk 68 = some (.inl (0, 3)) := rfl
theorem sk_69 : sk 69 = some (.inl (0, 96)) := rfl
theorem sk_70 : sk 70 = some (.inl (0, 6)) := rfl
theorem sk_71 : sk 71 = some (.inr (4, [some 72, some 73, some 77])) := rfl
theorem sk_72 : sk 72 = some (.inl (0, 8)) := rfl
theorem sk_73 : sk 73 = some (.inr (6, [none, none, some 74, some 75, some 76])) := rfl
theorem sk_74 : sk 74 = some (.inl (0, 10)) := rfl
theorem sk_75 : sk 75 = some (.inl (0, 320)) := rfl
theorem sk_76 : sk 76 = some (.inl (0, 20)) := rfl
theorem sk_77 : sk 77 = some (.inr (6, [none, none, some 78, some 79, some 80])) := rfl
theorem sk_78 : sk 78 = some (.inl (0, 3)) := rfl
theorem sk_79 : sk 79 = some (.inl (0, 96)) := rfl
theorem sk_80 : sk 80 = some (.inl (0, 6)) := rfl
theorem sk_81 : sk 81 = some (.inr (4, [some 82, some 83, some 87])) := rfl
theorem sk_82 : sk 82 = some (.inl (0, 8)) := rfl
theorem sk_83 : sk 83 = some (.inr (6, [none, none, some 84, some 85, some 86])) := rfl
theorem sk_84 : sk 84 = some (.inl (0, 10)) := rfl
theorem sk_85 : sk 85 = some (.inl (0, 320)) := rfl
theorem sk_86 : sk 86 = some (.inl (0, 20)) := rfl
theorem sk_87 : sk 87 = some (.inr (6, [none, none, some 88, some 89, some 90])) := rfl
theorem sk_88 : sk 88 = some (.inl (0, 3)) := rfl
theorem sk_89 : sk 89 = some (.inl (0, 96)) := rfl
theorem sk_90 : sk 90 = some (.inl (0, 6)) := rfl
theorem sk_91 : sk 91 = some (.inr (4, [some 92, some 93, some 97])) := rfl
theorem sk_92 : sk 92 = some (.inl (0, 8)) := rfl
theorem sk_93 : sk 93 = some (.inr (6, [none, none, some 94, some 95, some 96])) := rfl
theorem sk_94 : sk 94 = some (.inl (0, 10)) := rfl
theorem sk_95 : sk 95 = some (.inl (0, 320)) := rfl
theorem sk_96 : sk 96 = some (.inl (0, 20)) := rfl
theorem sk_97 : sk 97 = some (.inr (6, [none, none, some 98, some 99, some 100])) := rfl
theorem sk_98 : sk 98 = some (.inl (0, 3)) := rfl
theorem sk_99 : sk 99 = some (.inl (0, 96)) := rfl
theorem sk_100 : sk 100 = some (.inl (0, 6)) := rfl
theorem sk_101 : sk 101 = some (.inr (4, [some 102, some 103, some 107])) := rfl
theorem sk_102 : sk 102 = some (.inl (0, 8)) := rfl
theorem sk_103 : sk 103 = some (.inr (6, [none, none, some 104, some 105, some 106])) := rfl
theorem sk_104 : sk 104 = some (.inl (0, 10)) := rfl
theorem sk_105 : sk 105 = some (.inl (0, 320)) := rfl
theorem sk_106 : sk 106 = some (.inl (0, 20)) := rfl
theorem sk_107 : sk 107 = some (.inr (6, [none, none, some 108, some 109, some 110])) := rfl
theorem sk_108 : sk 108 = some (.inl (0, 3)) := rfl
theorem sk_109 : sk 109 = some (.inl (0, 96)) := rfl
theorem sk_110 : sk 110 = some (.inl (0, 6)) := rfl
theorem sk_111 : sk 111 = some (.inr (1, [some 112])) := rfl
theorem sk_112 : sk 112 = some (.inl (0, 8)) := rfl
theorem sk_113 : sk 113 = some (.inr (0, [some 114, some 115, none])) := rfl
theorem sk_114 : sk 114 = some (.inl (0, 128)) := rfl
theorem sk_115 : sk 115 = some (.inl (0, 128)) := rfl
theorem sk_116 : sk 116 = some (.inr (0, [some 117, some 118, none])) := rfl
theorem sk_117 : sk 117 = some (.inl (0, 128)) := rfl
theorem sk_118 : sk 118 = some (.inl (0, 128)) := rfl
theorem sk_119 : sk 119 = some (.inr (3, [some 120, some 121, none, some 122, none])) := rfl
theorem sk_120 : sk 120 = some (.inl (1, 128)) := rfl
theorem sk_121 : sk 121 = some (.inl (0, 128)) := rfl
theorem sk_122 : sk 122 = some (.inl (0, 3)) := rfl
theorem sk_123 : sk 123 = some (.inr (10, [none, some 124, some 125, some 126, none, some 127, some 128, some 129, none, none, none, none, none, none, some 130, none, none, some 131, none, some 132, some 133, none, some 134, none, some 135, none])) := rfl
theorem sk_124 : sk 124 = some (.inl (0, 439)) := rfl
theorem sk_125 : sk 125 = some (.inl (0, 439)) := rfl
theorem sk_126 : sk 126 = some (.inl (0, 2634)) := rfl
theorem sk_127 : sk 127 = some (.inl (0, 878)) := rfl
theorem sk_128 : sk 128 = some (.inl (2, 2)) := rfl
theorem sk_129 : sk 129 = some (.inl (0, 200)) := rfl
theorem sk_130 : sk 130 = some (.inl (0, 16)) := rfl
theorem sk_131 : sk 131 = some (.inl (2, 128)) := rfl
theorem sk_132 : sk 132 = some (.inl (0, 128)) := rfl
theorem sk_133 : sk 133 = some (.inl (0, 128)) := rfl
theorem sk_134 : sk 134 = some (.inl (0, 3)) := rfl
theorem sk_135 : sk 135 = some (.inl (0, 128)) := rfl
theorem bI01 (b : Bool) : bI b = 0 ∨ bI b = 1 := by cases b <;> simp [bI]
theorem bI_t : bI true = 1 := rfl
theorem bI_f : bI false = 0 := rfl
theorem bI_eq0 {b : Bool} (h : bI b = 0) : b = false := by cases b <;> simp_all [bI]
theorem bI_ne0 {b : Bool} (h : ¬ bI b = 0) : b = true := by cases b <;> simp_all [bI]
theorem bI_0 {b : Bool} : bI b = 0 ↔ b = false := by cases b <;> simp [bI]
theorem bI_1 {b : Bool} : bI b = 1 ↔ b = true := by cases b <;> simp [bI]
theorem nI_mul (a b : Nat) : nI a * nI b = nI (a * b) := by
  unfold nI; exact (Int32.ofNat_mul a b).symm
theorem nI_sub {a b : Nat} (h : b ≤ a) : nI a - nI b = nI (a - b) := by
  have : nI (a - b) + nI b = nI a := by rw [nI_add]; congr 1; omega
  rw [← this]; simp
theorem nI_nonneg {n : Nat} (h : n < 2 ^ 31) : ¬ nI n < 0 := nI_pos h
theorem up_eq {α : Type} (f : Nat → α) (k : Nat) (v : α) : va_up f k v k = v := by simp [va_up]
theorem up_ne {α : Type} (f : Nat → α) {k j : Nat} (v : α) (h : j ≠ k) : va_up f k v j = f j := by simp [va_up, h]
