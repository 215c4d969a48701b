/-! ===== the addresses behind both constructors ===== -/
def kdL : List Nat := [0, 0, 0, 0, 0, 0, 0, 0, 0, 0, 17, 4, 1, 1, 1, 1, 1, 1, 1, 5, 1, 1, 6, 12, 15, 1, 13, 1, 1, 1, 2, 1, 11, 4, 1, 1, 1, 1, 1, 1, 1, 1, 7, 10, 10, 10, 10, 10, 10, 10, 16, 1, 1, 1, 16, 1, 1, 1, 16, 1, 1, 1, 16, 1, 1, 1, 16, 1, 1, 1, 16, 1, 1, 1, 14, 1, 14, 1, 14, 1, 14, 1, 18, 1, 1, 1, 1, 1, 1, 1, 1, 1, 1, 1, 1, 3, 1, 1, 2, 1, 1, 1, 1, 1, 2, 1, 1, 1, 1, 1, 1, 1, 1]
def lnL : List Nat := [0, 0, 0, 0, 0, 0, 0, 0, 0, 0, 0, 7, 7, 7, 7, 7, 7, 7, 7, 7, 4, 4, 6, 0, 0, 160, 0, 7, 7, 7, 7, 7, 0, 7, 7, 7, 7, 7, 7, 7, 7, 7, 4, 0, 0, 0, 0, 0, 0, 0, 0, 160, 3, 40, 0, 160, 3, 40, 0, 160, 3, 40, 0, 160, 3, 40, 0, 160, 3, 40, 0, 160, 3, 40, 0, 40, 0, 40, 0, 40, 0, 40, 0, 49, 4, 4, 8, 8, 8, 8, 8, 8, 160, 2880, 18, 41, 13, 170, 8, 170, 6, 7, 7, 7, 7, 8, 7, 49, 8, 4, 4, 160, 40]
def kd0 (a : Nat) : Nat := kdL.getD a 0
def ln0 (a : Nat) : Nat := lnL.getD a 0
def rf0 (a k : Nat) : Nat :=
  if a < 19 then (match a, k with
    | 10, 0 => 11
    | 10, 1 => 19
    | 10, 2 => 20
    | 10, 3 => 21
    | 10, 4 => 22
    | 10, 5 => 23
    | 10, 6 => 26
    | 10, 7 => 32
    | 10, 8 => 42
    | 11, 0 => 12
    | 11, 1 => 13
    | 11, 2 => 14
    | 11, 3 => 15
    | 11, 4 => 16
    | 11, 5 => 17
    | 11, 6 => 18
    | _, _ => 0)
  else if a = 19 then (if k < 7 then 43 + 1 * k else 0)
  else if a = 22 then (if k < 6 then 50 + 4 * k else 0)
  else if a = 42 then (if k < 4 then 74 + 2 * k else 0)
  else if a = 33 then (if k < 7 then 34 + 1 * k else 0)
  else if a = 23 then [24, 0, 0].getD k 0
  else if a = 24 then [25, 0, 0, 0, 0].getD k 0
  else if a = 26 then [27, 28, 29, 30, 31, 0, 0, 0].getD k 0
  else if a = 32 then [33, 41, 0, 0, 0, 0].getD k 0
  else if 50 ≤ a ∧ a < 74 ∧ (a - 50) % 4 = 0 then (if k < 3 then a + 1 + k else 0)
  else if 74 ≤ a ∧ a < 82 ∧ (a - 74) % 2 = 0 then (if k = 0 then a + 1 else 0)
  else if a = 82 then [83, 0, 84, 85, 0, 86, 87, 88, 89, 90, 91, 92, 0, 0, 0, 93, 94, 0, 0, 0, 0, 95, 96, 97, 0, 0, 0, 98, 0, 0, 99, 100, 101, 102, 103, 104, 105, 106, 0, 0, 107, 108, 0, 0, 0, 109, 110, 111, 112].getD k 0
  else 0
def S0 : HS := (113, 5779, kd0, ln0, rf0)
theorem kd_10 : kd0 10 = 17 := rfl
theorem kd_11 : kd0 11 = 4 := rfl
theorem kd_12 : kd0 12 = 1 := rfl
theorem kd_13 : kd0 13 = 1 := rfl
theorem kd_14 : kd0 14 = 1 := rfl
theorem kd_15 : kd0 15 = 1 := rfl
theorem kd_16 : kd0 16 = 1 := rfl
theorem kd_17 : kd0 17 = 1 := rfl
theorem kd_18 : kd0 18 = 1 := rfl
theorem kd_19 : kd0 19 = 5 := rfl
theorem kd_20 : kd0 20 = 1 := rfl
theorem kd_21 : kd0 21 = 1 := rfl
theorem kd_22 : kd0 22 = 6 := rfl
theorem kd_23 : kd0 23 = 12 := rfl
theorem kd_24 : kd0 24 = 15 := rfl
theorem kd_25 : kd0 25 = 1 := rfl
theorem kd_26 : kd0 26 = 13 := rfl
theorem kd_27 : kd0 27 = 1 := rfl
theorem kd_28 : kd0 28 = 1 := rfl
theorem kd_29 : kd0 29 = 1 := rfl
theorem kd_30 : kd0 30 = 2 := rfl
theorem kd_31 : kd0 31 = 1 := rfl
theorem kd_32 : kd0 32 = 11 := rfl
theorem kd_33 : kd0 33 = 4 := rfl
theorem kd_34 : kd0 34 = 1 := rfl
theorem kd_35 : kd0 35 = 1 := rfl
theorem kd_36 : kd0 36 = 1 := rfl
theorem kd_37 : kd0 37 = 1 := rfl
theorem kd_38 : kd0 38 = 1 := rfl
theorem kd_39 : kd0 39 = 1 := rfl
theorem kd_40 : kd0 40 = 1 := rfl
theorem kd_41 : kd0 41 = 1 := rfl
theorem kd_42 : kd0 42 = 7 := rfl
theorem kd_43 : kd0 43 = 10 := rfl
theorem kd_44 : kd0 44 = 10 := rfl
theorem kd_45 : kd0 45 = 10 := rfl
theorem kd_46 : kd0 46 = 10 := rfl
theorem kd_47 : kd0 47 = 10 := rfl
theorem kd_48 : kd0 48 = 10 := rfl
theorem kd_49 : kd0 49 = 10 := rfl
theorem kd_50 : kd0 50 = 16 := rfl
theorem kd_51 : kd0 51 = 1 := rfl
theorem kd_52 : kd0 52 = 1 := rfl
theorem kd_53 : kd0 53 = 1 := rfl
theorem kd_54 : kd0 54 = 16 := rfl
theorem kd_55 : kd0 55 = 1 := rfl
theorem kd_56 : kd0 56 = 1 := rfl
theorem kd_57 : kd0 57 = 1 := rfl
theorem kd_58 : kd0 58 = 16 := rfl
theorem kd_59 : kd0 59 = 1 := rfl
theorem kd_60 : kd0 60 = 1 := rfl
theorem kd_61 : kd0 61 = 1 := rfl
theorem kd_62 : kd0 62 = 16 := rfl
theorem kd_63 : kd0 63 = 1 := rfl
theorem kd_64 : kd0 64 = 1 := rfl
theorem kd_65 : kd0 65 = 1 := rfl
theorem kd_66 : kd0 66 = 16 := rfl
theorem kd_67 : kd0 67 = 1 := rfl
theorem kd_68 : kd0 68 = 1 := rfl
theorem kd_69 : kd0 69 = 1 := rfl
theorem kd_70 : kd0 70 = 16 := rfl
theorem kd_71 : kd0 71 = 1 := rfl
theorem kd_72 : kd0 72 = 1 := rfl
theorem kd_73 : kd0 73 = 1 := rfl
theorem kd_74 : kd0 74 = 14 := rfl
theorem kd_75 : kd0 75 = 1 := rfl
theorem kd_76 : kd0 76 = 14 := rfl
theorem kd_77 : kd0 77 = 1 := rfl
theorem kd_78 : kd0 78 = 14 := rfl
theorem kd_79 : kd0 79 = 1 := rfl
theorem kd_80 : kd0 80 = 14 := rfl
theorem kd_81 : kd0 81 = 1 := rfl
theorem kd_82 : kd0 82 = 18 := rfl
theorem kd_83 : kd0 83 = 1 := rfl
theorem kd_84 : kd0 84 = 1 := rfl
theorem kd_85 : kd0 85 = 1 := rfl
theorem kd_86 : kd0 86 = 1 := rfl
theorem kd_87 : kd0 87 = 1 := rfl
theorem kd_88 : kd0 88 = 1 := rfl
theorem kd_89 : kd0 89 = 1 := rfl
theorem kd_90 : kd0 90 = 1 := rfl
theorem kd_91 : kd0 91 = 1 := rfl
theorem kd_92 : kd0 92 = 1 := rfl
theorem kd_93 : kd0 93 = 1 := rfl
theorem kd_94 : kd0 94 = 1 := rfl
theorem kd_95 : kd0 95 = 3 := rfl
theorem kd_96 : kd0 96 = 1 := rfl
theorem kd_97 : kd0 97 = 1 := rfl
theorem kd_98 : kd0 98 = 2 := rfl
theorem kd_99 : kd0 99 = 1 := rfl
theorem kd_100 : kd0 100 = 1 := rfl
theorem kd_101 : kd0 101 = 1 := rfl
theorem kd_102 : kd0 102 = 1 := rfl
theorem kd_103 : kd0 103 = 1 := rfl
theorem kd_104 : kd0 104 = 2 := rfl
theorem kd_105 : kd0 105 = 1 := rfl
theorem kd_106 : kd0 106 = 1 := rfl
theorem kd_107 : kd0 107 = 1 := rfl
theorem kd_108 : kd0 108 = 1 := rfl
theorem kd_109 : kd0 109 = 1 := rfl
theorem kd_110 : kd0 110 = 1 := rfl
theorem kd_111 : kd0 111 = 1 := rfl
theorem kd_112 : kd0 112 = 1 := rfl
theorem ln_11 : ln0 11 = 7 := rfl
theorem ln_12 : ln0 12 = 7 := rfl
theorem ln_13 : ln0 13 = 7 := rfl
theorem ln_14 : ln0 14 = 7 := rfl
theorem ln_15 : ln0 15 = 7 := rfl
theorem ln_16 : ln0 16 = 7 := rfl
theorem ln_17 : ln0 17 = 7 := rfl
theorem ln_18 : ln0 18 = 7 := rfl
theorem ln_19 : ln0 19 = 7 := rfl
theorem ln_20 : ln0 20 = 4 := rfl
theorem ln_21 : ln0 21 = 4 := rfl
theorem ln_22 : ln0 22 = 6 := rfl
theorem ln_25 : ln0 25 = 160 := rfl
theorem ln_27 : ln0 27 = 7 := rfl
theorem ln_28 : ln0 28 = 7 := rfl
theorem ln_29 : ln0 29 = 7 := rfl
theorem ln_30 : ln0 30 = 7 := rfl
theorem ln_31 : ln0 31 = 7 := rfl
theorem ln_33 : ln0 33 = 7 := rfl
theorem ln_34 : ln0 34 = 7 := rfl
theorem ln_35 : ln0 35 = 7 := rfl
theorem ln_36 : ln0 36 = 7 := rfl
theorem ln_37 : ln0 37 = 7 := rfl
theorem ln_38 : ln0 38 = 7 := rfl
theorem ln_39 : ln0 39 = 7 := rfl
theorem ln_40 : ln0 40 = 7 := rfl
theorem ln_41 : ln0 41 = 7 := rfl
theorem ln_42 : ln0 42 = 4 := rfl
theorem ln_51 : ln0 51 = 160 := rfl
theorem ln_52 : ln0 52 = 3 := rfl
theorem ln_53 : ln0 53 = 40 := rfl
theorem ln_55 : ln0 55 = 160 := rfl
theorem ln_56 : ln0 56 = 3 := rfl
theorem ln_57 : ln0 57 = 40 := rfl
theorem ln_59 : ln0 59 = 160 := rfl
theorem ln_60 : ln0 60 = 3 := rfl
theorem ln_61 : ln0 61 = 40 := rfl
theorem ln_63 : ln0 63 = 160 := rfl
theorem ln_64 : ln0 64 = 3 := rfl
theorem ln_65 : ln0 65 = 40 := rfl
theorem ln_67 : ln0 67 = 160 := rfl
theorem ln_68 : ln0 68 = 3 := rfl
theorem ln_69 : ln0 69 = 40 := rfl
theorem ln_71 : ln0 71 = 160 := rfl
theorem ln_72 : ln0 72 = 3 := rfl
theorem ln_73 : ln0 73 = 40 := rfl
theorem ln_75 : ln0 75 = 40 := rfl
theorem ln_77 : ln0 77 = 40 := rfl
theorem ln_79 : ln0 79 = 40 := rfl
theorem ln_81 : ln0 81 = 40 := rfl
theorem ln_83 : ln0 83 = 49 := rfl
theorem ln_84 : ln0 84 = 4 := rfl
theorem ln_85 : ln0 85 = 4 := rfl
theorem ln_86 : ln0 86 = 8 := rfl
theorem ln_87 : ln0 87 = 8 := rfl
theorem ln_88 : ln0 88 = 8 := rfl
theorem ln_89 : ln0 89 = 8 := rfl
theorem ln_90 : ln0 90 = 8 := rfl
theorem ln_91 : ln0 91 = 8 := rfl
theorem ln_92 : ln0 92 = 160 := rfl
theorem ln_93 : ln0 93 = 2880 := rfl
theorem ln_94 : ln0 94 = 18 := rfl
theorem ln_95 : ln0 95 = 41 := rfl
theorem ln_96 : ln0 96 = 13 := rfl
theorem ln_97 : ln0 97 = 170 := rfl
theorem ln_98 : ln0 98 = 8 := rfl
theorem ln_99 : ln0 99 = 170 := rfl
theorem ln_100 : ln0 100 = 6 := rfl
theorem ln_101 : ln0 101 = 7 := rfl
theorem ln_102 : ln0 102 = 7 := rfl
theorem ln_103 : ln0 103 = 7 := rfl
theorem ln_104 : ln0 104 = 7 := rfl
theorem ln_105 : ln0 105 = 8 := rfl
theorem ln_106 : ln0 106 = 7 := rfl
theorem ln_107 : ln0 107 = 49 := rfl
theorem ln_108 : ln0 108 = 8 := rfl
theorem ln_109 : ln0 109 = 4 := rfl
theorem ln_110 : ln0 110 = 4 := rfl
theorem ln_111 : ln0 111 = 160 := rfl
theorem ln_112 : ln0 112 = 40 := rfl
theorem rf_10_0 : rf0 10 0 = 11 := rfl
theorem rf_10_1 : rf0 10 1 = 19 := rfl
theorem rf_10_2 : rf0 10 2 = 20 := rfl
theorem rf_10_3 : rf0 10 3 = 21 := rfl
theorem rf_10_4 : rf0 10 4 = 22 := rfl
theorem rf_10_5 : rf0 10 5 = 23 := rfl
theorem rf_10_6 : rf0 10 6 = 26 := rfl
theorem rf_10_7 : rf0 10 7 = 32 := rfl
theorem rf_10_8 : rf0 10 8 = 42 := rfl
theorem rf_11_0 : rf0 11 0 = 12 := rfl
theorem rf_11_1 : rf0 11 1 = 13 := rfl
theorem rf_11_2 : rf0 11 2 = 14 := rfl
theorem rf_11_3 : rf0 11 3 = 15 := rfl
theorem rf_11_4 : rf0 11 4 = 16 := rfl
theorem rf_11_5 : rf0 11 5 = 17 := rfl
theorem rf_11_6 : rf0 11 6 = 18 := rfl
theorem rf_19_0 : rf0 19 0 = 43 := rfl
theorem rf_19_1 : rf0 19 1 = 44 := rfl
theorem rf_19_2 : rf0 19 2 = 45 := rfl
theorem rf_19_3 : rf0 19 3 = 46 := rfl
theorem rf_19_4 : rf0 19 4 = 47 := rfl
theorem rf_19_5 : rf0 19 5 = 48 := rfl
theorem rf_19_6 : rf0 19 6 = 49 := rfl
theorem rf_22_0 : rf0 22 0 = 50 := rfl
theorem rf_22_1 : rf0 22 1 = 54 := rfl
theorem rf_22_2 : rf0 22 2 = 58 := rfl
theorem rf_22_3 : rf0 22 3 = 62 := rfl
theorem rf_22_4 : rf0 22 4 = 66 := rfl
theorem rf_22_5 : rf0 22 5 = 70 := rfl
theorem rf_23_0 : rf0 23 0 = 24 := rfl
theorem rf_24_0 : rf0 24 0 = 25 := rfl
theorem rf_26_0 : rf0 26 0 = 27 := rfl
theorem rf_26_1 : rf0 26 1 = 28 := rfl
theorem rf_26_2 : rf0 26 2 = 29 := rfl
theorem rf_26_3 : rf0 26 3 = 30 := rfl
theorem rf_26_4 : rf0 26 4 = 31 := rfl
theorem rf_32_0 : rf0 32 0 = 33 := rfl
theorem rf_32_1 : rf0 32 1 = 41 := rfl
theorem rf_33_0 : rf0 33 0 = 34 := rfl
theorem rf_33_1 : rf0 33 1 = 35 := rfl
theorem rf_33_2 : rf0 33 2 = 36 := rfl
theorem rf_33_3 : rf0 33 3 = 37 := rfl
theorem rf_33_4 : rf0 33 4 = 38 := rfl
theorem rf_33_5 : rf0 33 5 = 39 := rfl
theorem rf_33_6 : rf0 33 6 = 40 := rfl
theorem rf_42_0 : rf0 42 0 = 74 := rfl
theorem rf_42_1 : rf0 42 1 = 76 := rfl
theorem rf_42_2 : rf0 42 2 = 78 := rfl
theorem rf_42_3 : rf0 42 3 = 80 := rfl
theorem rf_50_0 : rf0 50 0 = 51 := rfl
theorem rf_50_1 : rf0 50 1 = 52 := rfl
theorem rf_50_2 : rf0 50 2 = 53 := rfl
theorem rf_54_0 : rf0 54 0 = 55 := rfl
theorem rf_54_1 : rf0 54 1 = 56 := rfl
theorem rf_54_2 : rf0 54 2 = 57 := rfl
theorem rf_58_0 : rf0 58 0 = 59 := rfl
theorem rf_58_1 : rf0 58 1 = 60 := rfl
theorem rf_58_2 : rf0 58 2 = 61 := rfl
theorem rf_62_0 : rf0 62 0 = 63 := rfl
theorem rf_62_1 : rf0 62 1 = 64 := rfl
theorem rf_62_2 : rf0 62 2 = 65 := rfl
theorem rf_66_0 : rf0 66 0 = 67 := rfl
theorem rf_66_1 : rf0 66 1 = 68 := rfl
theorem rf_66_2 : rf0 66 2 = 69 := rfl
theorem rf_70_0 : rf0 70 0 = 71 := rfl
theorem rf_70_1 : rf0 70 1 = 72 := rfl
theorem rf_70_2 : rf0 70 2 = 73 := rfl
theorem rf_74_0 : rf0 74 0 = 75 := rfl
theorem rf_76_0 : rf0 76 0 = 77 := rfl
theorem rf_78_0 : rf0 78 0 = 79 := rfl
theorem rf_80_0 : rf0 80 0 = 81 := rfl
theorem rf_82_0 : rf0 82 0 = 83 := rfl
theorem rf_82_2 : rf0 82 2 = 84 := rfl
theorem rf_82_3 : rf0 82 3 = 85 := rfl
theorem rf_82_5 : rf0 82 5 = 86 := rfl
theorem rf_82_6 : rf0 82 6 = 87 := rfl
theorem rf_82_7 : rf0 82 7 = 88 := rfl
theorem rf_82_8 : rf0 82 8 = 89 := rfl
theorem rf_82_9 : rf0 82 9 = 90 := rfl
theorem rf_82_10 : rf0 82 10 = 91 := rfl
theorem rf_82_11 : rf0 82 11 = 92 := rfl
theorem rf_82_15 : rf0 82 15 = 93 := rfl
theorem rf_82_16 : rf0 82 16 = 94 := rfl
theorem rf_82_21 : rf0 82 21 = 95 := rfl
theorem rf_82_22 : rf0 82 22 = 96 := rfl
theorem rf_82_23 : rf0 82 23 = 97 := rfl
theorem rf_82_27 : rf0 82 27 = 98 := rfl
theorem rf_82_30 : rf0 82 30 = 99 := rfl
theorem rf_82_31 : rf0 82 31 = 100 := rfl
theorem rf_82_32 : rf0 82 32 = 101 := rfl
theorem rf_82_33 : rf0 82 33 = 102 := rfl
theorem rf_82_34 : rf0 82 34 = 103 := rfl
theorem rf_82_35 : rf0 82 35 = 104 := rfl
theorem rf_82_36 : rf0 82 36 = 105 := rfl
theorem rf_82_37 : rf0 82 37 = 106 := rfl
theorem rf_82_40 : rf0 82 40 = 107 := rfl
theorem rf_82_41 : rf0 82 41 = 108 := rfl
theorem rf_82_45 : rf0 82 45 = 109 := rfl
theorem rf_82_46 : rf0 82 46 = 110 := rfl
theorem rf_82_47 : rf0 82 47 = 111 := rfl
theorem rf_82_48 : rf0 82 48 = 112 := rfl
def isHo (o : Nat) : Prop := 43 ≤ o ∧ o ≤ 49
def isTx (o : Nat) : Prop := ∃ j, j < 6 ∧ o = 50 + 4 * j
def isSh (o : Nat) : Prop := ∃ j, j < 4 ∧ o = 74 + 2 * j
def isRw (o : Nat) : Prop := (12 ≤ o ∧ o ≤ 18) ∨ (34 ≤ o ∧ o ≤ 40)
theorem kdHo {o : Nat} (h : isHo o) : kd0 o = 10 := by
  obtain ⟨h1, h2⟩ := h
  rcases (show o = 43 ∨ o = 44 ∨ o = 45 ∨ o = 46 ∨ o = 47 ∨ o = 48 ∨ o = 49 by omega) with rfl | rfl | rfl | rfl | rfl | rfl | rfl <;> rfl
theorem kdTx {o : Nat} (h : isTx o) : kd0 o = 16 := by
  obtain ⟨j, hj, rfl⟩ := h
  rcases (show j = 0 ∨ j = 1 ∨ j = 2 ∨ j = 3 ∨ j = 4 ∨ j = 5 by omega) with rfl | rfl | rfl | rfl | rfl | rfl <;> rfl
theorem rfTx0 {o : Nat} (h : isTx o) : rf0 o 0 = o + 1 := by
  obtain ⟨j, hj, rfl⟩ := h
  rcases (show j = 0 ∨ j = 1 ∨ j = 2 ∨ j = 3 ∨ j = 4 ∨ j = 5 by omega) with rfl | rfl | rfl | rfl | rfl | rfl <;> rfl
theorem rfTx1 {o : Nat} (h : isTx o) : rf0 o 1 = o + 2 := by
  obtain ⟨j, hj, rfl⟩ := h
  rcases (show j = 0 ∨ j = 1 ∨ j = 2 ∨ j = 3 ∨ j = 4 ∨ j = 5 by omega) with rfl | rfl | rfl | rfl | rfl | rfl <;> rfl
theorem rfTx2 {o : Nat} (h : isTx o) : rf0 o 2 = o + 3 := by
  obtain ⟨j, hj, rfl⟩ := h
  rcases (show j = 0 ∨ j = 1 ∨ j = 2 ∨ j = 3 ∨ j = 4 ∨ j = 5 by omega) with rfl | rfl | rfl | rfl | rfl | rfl <;> rfl
theorem kdTx0 {o : Nat} (h : isTx o) : kd0 (o + 1) = 1 := by
  obtain ⟨j, hj, rfl⟩ := h
  rcases (show j = 0 ∨ j = 1 ∨ j = 2 ∨ j = 3 ∨ j = 4 ∨ j = 5 by omega) with rfl | rfl | rfl | rfl | rfl | rfl <;> rfl
theorem kdTx1 {o : Nat} (h : isTx o) : kd0 (o + 2) = 1 := by
  obtain ⟨j, hj, rfl⟩ := h
  rcases (show j = 0 ∨ j = 1 ∨ j = 2 ∨ j = 3 ∨ j = 4 ∨ j = 5 by omega) with rfl | rfl | rfl | rfl | rfl | rfl <;> rfl
theorem kdTx2 {o : Nat} (h : isTx o) : kd0 (o + 3) = 1 := by
  obtain ⟨j, hj, rfl⟩ := h
  rcases (show j = 0 ∨ j = 1 ∨ j = 2 ∨ j = 3 ∨ j = 4 ∨ j = 5 by omega) with rfl | rfl | rfl | rfl | rfl | rfl <;> rfl
theorem lnTx0 {o : Nat} (h : isTx o) : ln0 (o + 1) = 160 := by
  obtain ⟨j, hj, rfl⟩ := h
  rcases (show j = 0 ∨ j = 1 ∨ j = 2 ∨ j = 3 ∨ j = 4 ∨ j = 5 by omega) with rfl | rfl | rfl | rfl | rfl | rfl <;> rfl
theorem lnTx1 {o : Nat} (h : isTx o) : ln0 (o + 2) = 3 := by
  obtain ⟨j, hj, rfl⟩ := h
  rcases (show j = 0 ∨ j = 1 ∨ j = 2 ∨ j = 3 ∨ j = 4 ∨ j = 5 by omega) with rfl | rfl | rfl | rfl | rfl | rfl <;> rfl
theorem lnTx2 {o : Nat} (h : isTx o) : ln0 (o + 3) = 40 := by
  obtain ⟨j, hj, rfl⟩ := h
  rcases (show j = 0 ∨ j = 1 ∨ j = 2 ∨ j = 3 ∨ j = 4 ∨ j = 5 by omega) with rfl | rfl | rfl | rfl | rfl | rfl <;> rfl
theorem kdSh {o : Nat} (h : isSh o) : kd0 o = 14 := by
  obtain ⟨j, hj, rfl⟩ := h
  rcases (show j = 0 ∨ j = 1 ∨ j = 2 ∨ j = 3 by omega) with rfl | rfl | rfl | rfl <;> rfl
theorem rfSh0 {o : Nat} (h : isSh o) : rf0 o 0 = o + 1 := by
  obtain ⟨j, hj, rfl⟩ := h
  rcases (show j = 0 ∨ j = 1 ∨ j = 2 ∨ j = 3 by omega) with rfl | rfl | rfl | rfl <;> rfl
theorem kdSh0 {o : Nat} (h : isSh o) : kd0 (o + 1) = 1 := by
  obtain ⟨j, hj, rfl⟩ := h
  rcases (show j = 0 ∨ j = 1 ∨ j = 2 ∨ j = 3 by omega) with rfl | rfl | rfl | rfl <;> rfl
theorem lnSh0 {o : Nat} (h : isSh o) : ln0 (o + 1) = 40 := by
  obtain ⟨j, hj, rfl⟩ := h
  rcases (show j = 0 ∨ j = 1 ∨ j = 2 ∨ j = 3 by omega) with rfl | rfl | rfl | rfl <;> rfl
theorem kdRw {o : Nat} (h : isRw o) : kd0 o = 1 := by
  rcases h with ⟨h1, h2⟩ | ⟨h1, h2⟩
  · rcases (show o = 12 ∨ o = 13 ∨ o = 14 ∨ o = 15 ∨ o = 16 ∨ o = 17 ∨ o = 18 by omega) with rfl | rfl | rfl | rfl | rfl | rfl | rfl <;> rfl
  · rcases (show o = 34 ∨ o = 35 ∨ o = 36 ∨ o = 37 ∨ o = 38 ∨ o = 39 ∨ o = 40 by omega) with rfl | rfl | rfl | rfl | rfl | rfl | rfl <;> rfl
theorem lnRw {o : Nat} (h : isRw o) : ln0 o = 7 := by
  rcases h with ⟨h1, h2⟩ | ⟨h1, h2⟩
  · rcases (show o = 12 ∨ o = 13 ∨ o = 14 ∨ o = 15 ∨ o = 16 ∨ o = 17 ∨ o = 18 by omega) with rfl | rfl | rfl | rfl | rfl | rfl | rfl <;> rfl
  · rcases (show o = 34 ∨ o = 35 ∨ o = 36 ∨ o = 37 ∨ o = 38 ∨ o = 39 ∨ o = 40 by omega) with rfl | rfl | rfl | rfl | rfl | rfl | rfl <;> rfl
theorem nzHo {o : Nat} (h : isHo o) : o ≠ 0 := by
  have := h.1
  all_goals omega
theorem nzTx {o : Nat} (h : isTx o) : o ≠ 0 := by
  obtain ⟨j, hj, rfl⟩ := h
  all_goals omega
theorem nzSh {o : Nat} (h : isSh o) : o ≠ 0 := by
  obtain ⟨j, hj, rfl⟩ := h
  all_goals omega
theorem nzRw {o : Nat} (h : isRw o) : o ≠ 0 := by
  rcases h with ⟨h1, h2⟩ | ⟨h1, h2⟩
  all_goals omega
theorem raW {i : Int32} (h : vp_in i 7) : rf0 11 i.toNatClampNeg = 12 + i.toNatClampNeg := by
  have := va_in_lt h
  generalize i.toNatClampNeg = j at this ⊢
  rcases (show j = 0 ∨ j = 1 ∨ j = 2 ∨ j = 3 ∨ j = 4 ∨ j = 5 ∨ j = 6 by omega) with rfl | rfl | rfl | rfl | rfl | rfl | rfl <;> rfl
theorem isW {i : Int32} (h : vp_in i 7) : isRw (12 + i.toNatClampNeg) := by
  have := va_in_lt h
  unfold isRw
  omega
theorem raV {i : Int32} (h : vp_in i 7) : rf0 33 i.toNatClampNeg = 34 + i.toNatClampNeg := by
  have := va_in_lt h
  generalize i.toNatClampNeg = j at this ⊢
  rcases (show j = 0 ∨ j = 1 ∨ j = 2 ∨ j = 3 ∨ j = 4 ∨ j = 5 ∨ j = 6 by omega) with rfl | rfl | rfl | rfl | rfl | rfl | rfl <;> rfl
theorem isV {i : Int32} (h : vp_in i 7) : isRw (34 + i.toNatClampNeg) := by
  have := va_in_lt h
  unfold isRw
  omega
theorem raH {i : Int32} (h : vp_in i 7) : rf0 19 i.toNatClampNeg = 43 + i.toNatClampNeg := by
  have := va_in_lt h
  generalize i.toNatClampNeg = j at this ⊢
  rcases (show j = 0 ∨ j = 1 ∨ j = 2 ∨ j = 3 ∨ j = 4 ∨ j = 5 ∨ j = 6 by omega) with rfl | rfl | rfl | rfl | rfl | rfl | rfl <;> rfl
theorem isH {i : Int32} (h : vp_in i 7) : isHo (43 + i.toNatClampNeg) := by
  have := va_in_lt h
  unfold isHo
  omega
theorem raT {i : Int32} (h : vp_in i 6) : rf0 22 i.toNatClampNeg = 50 + 4 * i.toNatClampNeg := by
  have := va_in_lt h
  generalize i.toNatClampNeg = j at this ⊢
  rcases (show j = 0 ∨ j = 1 ∨ j = 2 ∨ j = 3 ∨ j = 4 ∨ j = 5 by omega) with rfl | rfl | rfl | rfl | rfl | rfl <;> rfl
theorem isT {i : Int32} (h : vp_in i 6) : isTx (50 + 4 * i.toNatClampNeg) := by
  have := va_in_lt h
  exact ⟨_, this, rfl⟩
theorem raS {i : Int32} (h : vp_in i 4) : rf0 42 i.toNatClampNeg = 74 + 2 * i.toNatClampNeg := by
  have := va_in_lt h
  generalize i.toNatClampNeg = j at this ⊢
  rcases (show j = 0 ∨ j = 1 ∨ j = 2 ∨ j = 3 by omega) with rfl | rfl | rfl | rfl <;> rfl
theorem isS {i : Int32} (h : vp_in i 4) : isSh (74 + 2 * i.toNatClampNeg) := by
  have := va_in_lt h
  exact ⟨_, this, rfl⟩
def isWW (o : Nat) : Prop := o = 11 ∨ o = 33
theorem nzWW {o : Nat} (h : isWW o) : o ≠ 0 := by
  rcases h with rfl | rfl <;> decide
theorem kdWW {o : Nat} (h : isWW o) : kd0 o = 4 := by
  rcases h with rfl | rfl <;> rfl
theorem lnWW {o : Nat} (h : isWW o) : ln0 o = 7 := by
  rcases h with rfl | rfl <;> rfl
theorem raWW {o : Nat} {i : Int32} (h : isWW o) (hv : vp_in i 7) : rf0 o i.toNatClampNeg = o + 1 + i.toNatClampNeg := by
  rcases h with rfl | rfl
  · exact raW hv
  · exact raV hv
theorem isWWr {o : Nat} {i : Int32} (h : isWW o) (hv : vp_in i 7) : isRw (o + 1 + i.toNatClampNeg) := by
  have := va_in_lt hv
  unfold isRw
  rcases h with rfl | rfl <;> omega
/-- a walk behind both constructors: nothing is made any more -/
abbrev Ev2 (G : GW) (M : MK) (d pc : Nat) (lv : List (Nat × Value)) (st : List Value) (μ : Mem) (K : Option Value → Mem → Prop) : Prop := EvW G M d S0.1 S0.2.1 pc lv st S0 μ (fun v S' μ' => S' = S0 ∧ K v μ')
