/-! PART 36p: all of them. -/
theorem pe_msL_ok (c : List Int32) : ∀ mi mt, pe_at (pe_GL c).ms mi = some mt → pe_okM (pe_GL c) pe_cl pe_ckS mt = true := by
  intro mi mt h
  match mi, h with
  | 0, h =>
    have h2 : some tn_0 = some mt := h
    cases h2
    exact pe_okM_xs nk_0
  | 1, h =>
    have h2 : some tn_1 = some mt := h
    cases h2
    exact pe_okM_xs nk_1
  | 2, h =>
    have h2 : some tn_2 = some mt := h
    cases h2
    exact pe_okM_xs nk_2
  | 3, h =>
    have h2 : some tn_3 = some mt := h
    cases h2
    exact pe_okM_xs nk_3
  | 4, h =>
    have h2 : some tn_4 = some mt := h
    cases h2
    exact pe_okM_xs nk_4
  | 5, h =>
    have h2 : some tn_5 = some mt := h
    cases h2
    exact pe_okM_xs nk_5
  | 6, h =>
    have h2 : some tn_6 = some mt := h
    cases h2
    exact pe_okM_xs nk_6
  | 7, h =>
    have h2 : some tn_7 = some mt := h
    cases h2
    exact pe_okM_xs nk_7
  | 8, h =>
    have h2 : some tn_8 = some mt := h
    cases h2
    exact pe_okM_xs nk_8
  | 9, h =>
    have h2 : some tn_9 = some mt := h
    cases h2
    exact pe_okM_xs nk_9
  | 10, h =>
    have h2 : some tn_10 = some mt := h
    cases h2
    exact pe_okM_xs nk_10
  | 11, h =>
    have h2 : some tn_11 = some mt := h
    cases h2
    exact pe_okM_xs nk_11
  | 12, h =>
    have h2 : some tn_12 = some mt := h
    cases h2
    exact pe_okM_xs nk_12
  | 13, h =>
    have h2 : some tn_13 = some mt := h
    cases h2
    exact pe_okM_xs nk_13
  | 14, h =>
    have h2 : some tn_14 = some mt := h
    cases h2
    exact pe_okM_xs nk_14
  | 15, h =>
    have h2 : some tn_15 = some mt := h
    cases h2
    exact pe_okM_xs nk_15
  | 16, h =>
    have h2 : some tn_16 = some mt := h
    cases h2
    exact pe_okM_xs nk_16
  | 17, h =>
    have h2 : some tn_17 = some mt := h
    cases h2
    exact pe_okM_xs nk_17
  | 18, h =>
    have h2 : some tn_18 = some mt := h
    cases h2
    exact pe_okM_xs nk_18
  | 19, h =>
    have h2 : some tn_19 = some mt := h
    cases h2
    exact pe_okM_xs nk_19
  | 20, h =>
    have h2 : some tn_20 = some mt := h
    cases h2
    exact pe_okM_xs nk_20
  | 21, h =>
    have h2 : some tn_21 = some mt := h
    cases h2
    exact pe_okM_xs nk_21
  | 22, h =>
    have h2 : some tn_22 = some mt := h
    cases h2
    exact pe_okM_xs nk_22
  | 23, h =>
    have h2 : some tn_23 = some mt := h
    cases h2
    exact pe_okM_xs nk_23
  | 24, h =>
    have h2 : some tn_24 = some mt := h
    cases h2
    exact pe_okM_xs nk_24
  | 25, h =>
    have h2 : some tn_25 = some mt := h
    cases h2
    exact pe_okM_xs nk_25
  | 26, h =>
    have h2 : some tn_26 = some mt := h
    cases h2
    exact pe_okM_xs nk_26
  | 27, h =>
    have h2 : some tn_27 = some mt := h
    cases h2
    exact pe_okM_xs nk_27
  | 28, h =>
    have h2 : some tn_28 = some mt := h
    cases h2
    exact pe_okM_xs nk_28
  | 29, h =>
    have h2 : some tn_29 = some mt := h
    cases h2
    exact pe_okM_xs nk_29
  | 30, h =>
    have h2 : some tn_30 = some mt := h
    cases h2
    exact pe_okM_xs nk_30
  | 31, h =>
    have h2 : some tn_31 = some mt := h
    cases h2
    exact pe_okM_xs nk_31
  | 32, h =>
    have h2 : some tn_32 = some mt := h
    cases h2
    exact pe_okM_xs nk_32
  | 33, h =>
    have h2 : some tn_33 = some mt := h
    cases h2
    exact pe_okM_xs nk_33
  | 34, h =>
    have h2 : some tn_34 = some mt := h
    cases h2
    exact pe_okM_xs nk_34
  | 35, h =>
    have h2 : some tn_35 = some mt := h
    cases h2
    exact pe_okM_xs nk_35
  | 36, h =>
    have h2 : some tn_36 = some mt := h
    cases h2
    exact pe_okM_xs nk_36
  | 37, h =>
    have h2 : some tn_37 = some mt := h
    cases h2
    exact pe_okM_xs nk_37
  | 38, h =>
    have h2 : some tn_38 = some mt := h
    cases h2
    exact pe_okM_xs nk_38
  | 39, h =>
    have h2 : some tn_39 = some mt := h
    cases h2
    exact pe_okM_xs nk_39
  | 40, h =>
    have h2 : some tn_40 = some mt := h
    cases h2
    exact pe_okM_xs nk_40
  | 41, h =>
    have h2 : some tn_41 = some mt := h
    cases h2
    exact pe_okM_xs nk_41
  | 42, h =>
    have h2 : some tn_42 = some mt := h
    cases h2
    exact pe_okM_xs nk_42
  | 43, h =>
    have h2 : some tn_43 = some mt := h
    cases h2
    exact pe_okM_xs nk_43
  | 44, h =>
    have h2 : some tn_44 = some mt := h
    cases h2
    exact pe_okM_xs nk_44
  | 45, h =>
    have h2 : some tn_45 = some mt := h
    cases h2
    exact pe_okM_xs nk_45
  | 46, h =>
    have h2 : some tn_46 = some mt := h
    cases h2
    exact pe_okM_xs nk_46
  | 47, h =>
    have h2 : some tn_47 = some mt := h
    cases h2
    exact pe_okM_xs nk_47
  | 48, h =>
    have h2 : some tn_48 = some mt := h
    cases h2
    exact pe_okM_xs nk_48
  | 49, h =>
    have h2 : some tn_49 = some mt := h
    cases h2
    exact pe_okM_xs nk_49
  | 50, h =>
    have h2 : some tn_50 = some mt := h
    cases h2
    exact pe_okM_xs nk_50
  | 51, h =>
    have h2 : some tn_51 = some mt := h
    cases h2
    exact pe_okM_xs nk_51
  | 52, h =>
    have h2 : some tn_52 = some mt := h
    cases h2
    exact pe_okM_xs nk_52
  | 53, h =>
    have h2 : some tn_53 = some mt := h
    cases h2
    exact pe_okM_xs nk_53
  | 54, h =>
    have h2 : some tn_54 = some mt := h
    cases h2
    exact pe_okM_xs nk_54
  | 55, h =>
    have h2 : some tn_55 = some mt := h
    cases h2
    exact pe_okM_xs nk_55
  | 56, h =>
    have h2 : some tn_56 = some mt := h
    cases h2
    exact pe_okM_xs nk_56
  | 57, h =>
    have h2 : some tn_57 = some mt := h
    cases h2
    exact pe_okM_xs nk_57
  | 58, h =>
    have h2 : some tn_58 = some mt := h
    cases h2
    exact pe_okM_xs nk_58
  | 59, h =>
    have h2 : some tn_59 = some mt := h
    cases h2
    exact pe_okM_xs nk_59
  | 60, h =>
    have h2 : some tn_60 = some mt := h
    cases h2
    exact pe_okM_xs nk_60
  | 61, h =>
    have h2 : some tn_61 = some mt := h
    cases h2
    exact pe_okM_xs nk_61
  | 62, h =>
    have h2 : some tn_62 = some mt := h
    cases h2
    exact pe_okM_xs nk_62
  | 63, h =>
    have h2 : some tn_63 = some mt := h
    cases h2
    exact pe_okM_xs nk_63
  | 64, h =>
    have h2 : some tn_64 = some mt := h
    cases h2
    exact pe_okM_xs nk_64
  | 65, h =>
    have h2 : some tn_65 = some mt := h
    cases h2
    exact pe_okM_xs nk_65
  | 66, h =>
    have h2 : some tn_66 = some mt := h
    cases h2
    exact pe_okM_xs nk_66
  | 67, h =>
    have h2 : some tn_67 = some mt := h
    cases h2
    exact pe_okM_xs nk_67
  | 68, h =>
    have h2 : some tn_68 = some mt := h
    cases h2
    exact pe_okM_xs nk_68
  | 69, h =>
    have h2 : some tn_69 = some mt := h
    cases h2
    exact pe_okM_xs nk_69
  | 70, h =>
    have h2 : some tn_70 = some mt := h
    cases h2
    exact pe_okM_xs nk_70
  | 71, h =>
    have h2 : some tn_71 = some mt := h
    cases h2
    exact pe_okM_xs nk_71
  | 72, h =>
    have h2 : some tn_72 = some mt := h
    cases h2
    exact pe_okM_xs nk_72
  | 73, h =>
    have h2 : some tn_73 = some mt := h
    cases h2
    exact pe_okM_xs nk_73
  | 74, h =>
    have h2 : some tn_74 = some mt := h
    cases h2
    exact pe_okM_xs nk_74
  | 75, h =>
    have h2 : some tn_75 = some mt := h
    cases h2
    exact pe_okM_xs nk_75
  | 76, h =>
    have h2 : some tn_76 = some mt := h
    cases h2
    exact pe_okM_xs nk_76
  | 77, h =>
    have h2 : some tn_77 = some mt := h
    cases h2
    exact pe_okM_xs nk_77
  | 78, h =>
    have h2 : some tn_78 = some mt := h
    cases h2
    exact pe_okM_xs nk_78
  | 79, h =>
    have h2 : some tn_79 = some mt := h
    cases h2
    exact pe_okM_xs nk_79
  | 80, h =>
    have h2 : some tn_80 = some mt := h
    cases h2
    exact pe_okM_xs nk_80
  | 81, h =>
    have h2 : some tn_81 = some mt := h
    cases h2
    exact pe_okM_xs nk_81
  | 82, h =>
    have h2 : some tn_82 = some mt := h
    cases h2
    exact pe_okM_xs nk_82
  | 83, h =>
    have h2 : some tn_83 = some mt := h
    cases h2
    exact pe_okM_xs nk_83
  | 84, h =>
    have h2 : some tn_84 = some mt := h
    cases h2
    exact pe_okM_xs nk_84
  | 85, h =>
    have h2 : some tn_85 = some mt := h
    cases h2
    exact pe_okM_xs nk_85
  | 86, h =>
    have h2 : some tn_86 = some mt := h
    cases h2
    exact pe_okM_xs nk_86
  | 87, h =>
    have h2 : some tn_87 = some mt := h
    cases h2
    exact pe_okM_xs nk_87
  | 88, h =>
    have h2 : some tn_88 = some mt := h
    cases h2
    exact pe_okM_xs nk_88
  | 89, h =>
    have h2 : some tn_89 = some mt := h
    cases h2
    exact pe_okM_xs nk_89
  | 90, h =>
    have h2 : some tn_90 = some mt := h
    cases h2
    exact pe_okM_xs nk_90
  | 91, h =>
    have h2 : some tn_91 = some mt := h
    cases h2
    exact pe_okM_xs nk_91
  | 92, h =>
    have h2 : some tn_92 = some mt := h
    cases h2
    exact pe_okM_xs nk_92
  | 93, h =>
    have h2 : some tn_93 = some mt := h
    cases h2
    exact pe_okM_xs nk_93
  | 94, h =>
    have h2 : some tn_94 = some mt := h
    cases h2
    exact pe_okM_xs nk_94
  | 95, h =>
    have h2 : some tn_95 = some mt := h
    cases h2
    exact pe_okM_xs nk_95
  | 96, h =>
    have h2 : some tn_96 = some mt := h
    cases h2
    exact pe_okM_xs nk_96
  | 97, h =>
    have h2 : some tn_97 = some mt := h
    cases h2
    exact pe_okM_xs nk_97
  | 98, h =>
    have h2 : some tn_98 = some mt := h
    cases h2
    exact pe_okM_xs nk_98
  | 99, h =>
    have h2 : some tn_99 = some mt := h
    cases h2
    exact pe_okM_xs nk_99
  | 100, h =>
    have h2 : some tn_100 = some mt := h
    cases h2
    exact pe_okM_xs nk_100
  | n + 101, h =>
    rw [pe_at_eq] at h
    exact absurd (List.getElem?_eq_some_iff.mp h).1 (by show ¬ n + 101 < 101; omega)
