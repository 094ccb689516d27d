set_option maxRecDepth 20000 in
theorem ok_1 : qgood 1 := ⟨by decide +kernel, rfl, by decide +kernel⟩
set_option maxRecDepth 20000 in
theorem ok_2 : qgood 2 := ⟨by decide +kernel, rfl, by decide +kernel⟩
set_option maxRecDepth 20000 in
theorem ok_3 : qgood 3 := ⟨by decide +kernel, rfl, by decide +kernel⟩
set_option maxRecDepth 20000 in
theorem ok_4 : qgood 4 := ⟨by decide +kernel, rfl, by decide +kernel⟩
set_option maxRecDepth 20000 in
theorem ok_5 : qgood 5 := ⟨by decide +kernel, rfl, by decide +kernel⟩
set_option maxRecDepth 20000 in
theorem ok_6 : qgood 6 := ⟨by decide +kernel, rfl, by decide +kernel⟩
set_option maxRecDepth 20000 in
theorem ok_8 : qgood 8 := ⟨by decide +kernel, rfl, by decide +kernel⟩
set_option maxRecDepth 20000 in
theorem ok_9 : qgood 9 := ⟨by decide +kernel, rfl, by decide +kernel⟩
set_option maxRecDepth 20000 in
theorem ok_10 : qgood 10 := ⟨by decide +kernel, rfl, by decide +kernel⟩
set_option maxRecDepth 20000 in
theorem ok_11 : qgood 11 := ⟨by decide +kernel, rfl, by decide +kernel⟩
set_option maxRecDepth 20000 in
theorem ok_12 : qgood 12 := ⟨by decide +kernel, rfl, by decide +kernel⟩
set_option maxRecDepth 20000 in
theorem ok_13 : qgood 13 := ⟨by decide +kernel, rfl, by decide +kernel⟩
set_option maxRecDepth 20000 in
theorem ok_14 : qgood 14 := ⟨by decide +kernel, rfl, by decide +kernel⟩
set_option maxRecDepth 20000 in
theorem ok_15 : qgood 15 := ⟨by decide +kernel, rfl, by decide +kernel⟩
set_option maxRecDepth 20000 in
theorem ok_16 : qgood 16 := ⟨by decide +kernel, rfl, by decide +kernel⟩
set_option maxRecDepth 20000 in
theorem ok_17 : qgood 17 := ⟨by decide +kernel, rfl, by decide +kernel⟩
set_option maxRecDepth 20000 in
theorem ok_18 : qgood 18 := ⟨by decide +kernel, rfl, by decide +kernel⟩
set_option maxRecDepth 20000 in
theorem ok_19 : qgood 19 := ⟨by decide +kernel, rfl, by decide +kernel⟩
set_option maxRecDepth 20000 in
theorem ok_20 : qgood 20 := ⟨by decide +kernel, rfl, by decide +kernel⟩
set_option maxRecDepth 20000 in
theorem ok_21 : qgood 21 := ⟨by decide +kernel, rfl, by decide +kernel⟩
set_option maxRecDepth 20000 in
theorem ok_22 : qgood 22 := ⟨by decide +kernel, rfl, by decide +kernel⟩
set_option maxRecDepth 20000 in
theorem ok_23 : qgood 23 := ⟨by decide +kernel, rfl, by decide +kernel⟩
set_option maxRecDepth 20000 in
theorem ok_24 : qgood 24 := ⟨by decide +kernel, rfl, by decide +kernel⟩
set_option maxRecDepth 20000 in
theorem ok_25 : qgood 25 := ⟨by decide +kernel, rfl, by decide +kernel⟩
set_option maxRecDepth 20000 in
theorem ok_26 : qgood 26 := ⟨by decide +kernel, rfl, by decide +kernel⟩
set_option maxRecDepth 20000 in
theorem ok_27 : qgood 27 := ⟨by decide +kernel, rfl, by decide +kernel⟩
set_option maxRecDepth 20000 in
theorem ok_28 : qgood 28 := ⟨by decide +kernel, rfl, by decide +kernel⟩
set_option maxRecDepth 20000 in
theorem ok_29 : qgood 29 := ⟨by decide +kernel, rfl, by decide +kernel⟩
set_option maxRecDepth 20000 in
theorem ok_30 : qgood 30 := ⟨by decide +kernel, rfl, by decide +kernel⟩
set_option maxRecDepth 20000 in
theorem ok_31 : qgood 31 := ⟨by decide +kernel, rfl, by decide +kernel⟩
set_option maxRecDepth 20000 in
theorem ok_32 : qgood 32 := ⟨by decide +kernel, rfl, by decide +kernel⟩
set_option maxRecDepth 20000 in
theorem ok_34 : qgood 34 := ⟨by decide +kernel, rfl, by decide +kernel⟩
set_option maxRecDepth 20000 in
theorem ok_35 : qgood 35 := ⟨by decide +kernel, rfl, by decide +kernel⟩
set_option maxRecDepth 20000 in
theorem ok_36 : qgood 36 := ⟨by decide +kernel, rfl, by decide +kernel⟩
set_option maxRecDepth 20000 in
theorem ok_37 : qgood 37 := ⟨by decide +kernel, rfl, by decide +kernel⟩
set_option maxRecDepth 20000 in
theorem ok_38 : qgood 38 := ⟨by decide +kernel, rfl, by decide +kernel⟩
set_option maxRecDepth 20000 in
theorem ok_39 : qgood 39 := ⟨by decide +kernel, rfl, by decide +kernel⟩
set_option maxRecDepth 20000 in
theorem ok_41 : qgood 41 := ⟨by decide +kernel, rfl, by decide +kernel⟩
set_option maxRecDepth 20000 in
theorem ok_42 : qgood 42 := ⟨by decide +kernel, rfl, by decide +kernel⟩
set_option maxRecDepth 20000 in
theorem ok_43 : qgood 43 := ⟨by decide +kernel, rfl, by decide +kernel⟩
set_option maxRecDepth 20000 in
theorem ok_44 : qgood 44 := ⟨by decide +kernel, rfl, by decide +kernel⟩
set_option maxRecDepth 20000 in
theorem ok_45 : qgood 45 := ⟨by decide +kernel, rfl, by decide +kernel⟩
set_option maxRecDepth 20000 in
theorem ok_46 : qgood 46 := ⟨by decide +kernel, rfl, by decide +kernel⟩
set_option maxRecDepth 20000 in
theorem ok_47 : qgood 47 := ⟨by decide +kernel, rfl, by decide +kernel⟩
set_option maxRecDepth 20000 in
theorem ok_48 : qgood 48 := ⟨by decide +kernel, rfl, by decide +kernel⟩
set_option maxRecDepth 20000 in
theorem ok_49 : qgood 49 := ⟨by decide +kernel, rfl, by decide +kernel⟩
set_option maxRecDepth 20000 in
theorem ok_51 : qgood 51 := ⟨by decide +kernel, rfl, by decide +kernel⟩
set_option maxRecDepth 20000 in
theorem ok_52 : qgood 52 := ⟨by decide +kernel, rfl, by decide +kernel⟩
set_option maxRecDepth 20000 in
theorem ok_53 : qgood 53 := ⟨by decide +kernel, rfl, by decide +kernel⟩
set_option maxRecDepth 20000 in
theorem ok_54 : qgood 54 := ⟨by decide +kernel, rfl, by decide +kernel⟩
set_option maxRecDepth 20000 in
theorem ok_55 : qgood 55 := ⟨by decide +kernel, rfl, by decide +kernel⟩
set_option maxRecDepth 20000 in
theorem ok_56 : qgood 56 := ⟨by decide +kernel, rfl, by decide +kernel⟩
set_option maxRecDepth 20000 in
theorem ok_57 : qgood 57 := ⟨by decide +kernel, rfl, by decide +kernel⟩
set_option maxRecDepth 20000 in
theorem ok_58 : qgood 58 := ⟨by decide +kernel, rfl, by decide +kernel⟩
set_option maxRecDepth 20000 in
theorem ok_59 : qgood 59 := ⟨by decide +kernel, rfl, by decide +kernel⟩
set_option maxRecDepth 20000 in
theorem ok_60 : qgood 60 := ⟨by decide +kernel, rfl, by decide +kernel⟩
set_option maxRecDepth 20000 in
theorem ok_61 : qgood 61 := ⟨by decide +kernel, rfl, by decide +kernel⟩
set_option maxRecDepth 20000 in
theorem ok_63 : qgood 63 := ⟨by decide +kernel, rfl, by decide +kernel⟩
set_option maxRecDepth 20000 in
theorem ok_64 : qgood 64 := ⟨by decide +kernel, rfl, by decide +kernel⟩
set_option maxRecDepth 20000 in
theorem ok_65 : qgood 65 := ⟨by decide +kernel, rfl, by decide +kernel⟩
set_option maxRecDepth 20000 in
theorem ok_66 : qgood 66 := ⟨by decide +kernel, rfl, by decide +kernel⟩
set_option maxRecDepth 20000 in
theorem ok_67 : qgood 67 := ⟨by decide +kernel, rfl, by decide +kernel⟩
set_option maxRecDepth 20000 in
theorem ok_68 : qgood 68 := ⟨by decide +kernel, rfl, by decide +kernel⟩
set_option maxRecDepth 20000 in
theorem ok_69 : qgood 69 := ⟨by decide +kernel, rfl, by decide +kernel⟩
set_option maxRecDepth 20000 in
theorem ok_70 : qgood 70 := ⟨by decide +kernel, rfl, by decide +kernel⟩
set_option maxRecDepth 20000 in
theorem ok_71 : qgood 71 := ⟨by decide +kernel, rfl, by decide +kernel⟩
set_option maxRecDepth 20000 in
theorem ok_72 : qgood 72 := ⟨by decide +kernel, rfl, by decide +kernel⟩
set_option maxRecDepth 20000 in
theorem ok_73 : qgood 73 := ⟨by decide +kernel, rfl, by decide +kernel⟩
set_option maxRecDepth 20000 in
theorem ok_75 : qgood 75 := ⟨by decide +kernel, rfl, by decide +kernel⟩
set_option maxRecDepth 20000 in
theorem ok_76 : qgood 76 := ⟨by decide +kernel, rfl, by decide +kernel⟩
set_option maxRecDepth 20000 in
theorem ok_77 : qgood 77 := ⟨by decide +kernel, rfl, by decide +kernel⟩
set_option maxRecDepth 20000 in
theorem ok_78 : qgood 78 := ⟨by decide +kernel, rfl, by decide +kernel⟩
set_option maxRecDepth 20000 in
theorem ok_79 : qgood 79 := ⟨by decide +kernel, rfl, by decide +kernel⟩
set_option maxRecDepth 20000 in
theorem ok_80 : qgood 80 := ⟨by decide +kernel, rfl, by decide +kernel⟩
set_option maxRecDepth 20000 in
theorem ok_81 : qgood 81 := ⟨by decide +kernel, rfl, by decide +kernel⟩
set_option maxRecDepth 20000 in
theorem ok_82 : qgood 82 := ⟨by decide +kernel, rfl, by decide +kernel⟩
set_option maxRecDepth 20000 in
theorem ok_83 : qgood 83 := ⟨by decide +kernel, rfl, by decide +kernel⟩
set_option maxRecDepth 20000 in
theorem ok_84 : qgood 84 := ⟨by decide +kernel, rfl, by decide +kernel⟩
set_option maxRecDepth 20000 in
theorem ok_85 : qgood 85 := ⟨by decide +kernel, rfl, by decide +kernel⟩
set_option maxRecDepth 20000 in
theorem ok_86 : qgood 86 := ⟨by decide +kernel, rfl, by decide +kernel⟩
set_option maxRecDepth 20000 in
theorem ok_88 : qgood 88 := ⟨by decide +kernel, rfl, by decide +kernel⟩
set_option maxRecDepth 20000 in
theorem ok_89 : qgood 89 := ⟨by decide +kernel, rfl, by decide +kernel⟩
set_option maxRecDepth 20000 in
theorem ok_90 : qgood 90 := ⟨by decide +kernel, rfl, by decide +kernel⟩
set_option maxRecDepth 20000 in
theorem ok_91 : qgood 91 := ⟨by decide +kernel, rfl, by decide +kernel⟩
set_option maxRecDepth 20000 in
theorem ok_92 : qgood 92 := ⟨by decide +kernel, rfl, by decide +kernel⟩
set_option maxRecDepth 20000 in
theorem ok_93 : qgood 93 := ⟨by decide +kernel, rfl, by decide +kernel⟩
set_option maxRecDepth 20000 in
theorem ok_94 : qgood 94 := ⟨by decide +kernel, rfl, by decide +kernel⟩
set_option maxRecDepth 20000 in
theorem ok_95 : qgood 95 := ⟨by decide +kernel, rfl, by decide +kernel⟩
set_option maxRecDepth 20000 in
theorem ok_96 : qgood 96 := ⟨by decide +kernel, rfl, by decide +kernel⟩
set_option maxRecDepth 20000 in
theorem ok_97 : qgood 97 := ⟨by decide +kernel, rfl, by decide +kernel⟩
