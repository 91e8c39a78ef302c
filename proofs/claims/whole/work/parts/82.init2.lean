/-! the start: the trace -/
noncomputable def iH_0 : pm_H := []
noncomputable def iH_1 : pm_H := iH_0 ++ [.inr (11, [.null, .null, .null, .null, .null, .null])]
noncomputable def iH_2 : pm_H := iH_1 ++ [.inr (10, [.null, .null, .null, .null, .null])]
noncomputable def iH_3 : pm_H := iH_2 ++ [.inl (0, 8, .inl (fun _ => 0))]
noncomputable def iH_4 : pm_H := iH_3.set 1 (.inr (10, [.ref 2, .null, .null, .null, .null]))
noncomputable def iH_5 : pm_H := iH_4 ++ [.inl (0, 6, .inl (fun _ => 0))]
noncomputable def iH_6 : pm_H := iH_5.set 1 (.inr (10, [.ref 2, .ref 3, .null, .null, .null]))
noncomputable def iH_7 : pm_H := iH_6 ++ [.inl (0, 6, .inl (fun _ => 0))]
noncomputable def iH_8 : pm_H := iH_7.set 1 (.inr (10, [.ref 2, .ref 3, .ref 4, .null, .null]))
noncomputable def iH_9 : pm_H := iH_8 ++ [.inl (3, 6, .inr (.inr (.inr (.inr (fun _ => none)))))]
noncomputable def iH_10 : pm_H := iH_9.set 1 (.inr (10, [.ref 2, .ref 3, .ref 4, .ref 5, .null]))
noncomputable def iH_11 : pm_H := iH_10 ++ [.inr (4, [.null, .int (0), .int (0)])]
noncomputable def iH_12 : pm_H := iH_11 ++ [.inl (0, 4, .inl (fun _ => 0))]
noncomputable def iH_13 : pm_H := iH_12.set 6 (.inr (4, [.ref 7, .int (0), .int (0)]))
noncomputable def iH_14 : pm_H := iH_13.set 1 (.inr (10, [.ref 2, .ref 3, .ref 4, .ref 5, .ref 6]))
noncomputable def iH_15 : pm_H := iH_14.set 4 (.inl (0, 6, .inl (flF 6 (1) (fun _ => 0))))
noncomputable def iH_16 : pm_H := iH_15 ++ [.inr (4, [.null, .int (0), .int (0)])]
noncomputable def iH_17 : pm_H := iH_16 ++ [.inl (0, 4, .inl (fun _ => 0))]
noncomputable def iH_18 : pm_H := iH_17.set 8 (.inr (4, [.ref 9, .int (0), .int (0)]))
noncomputable def iH_19 : pm_H := iH_18.set 5 (.inl (3, 6, .inr (.inr (.inr (.inr (va_up (fun _ => none) 0 (some 8)))))))
noncomputable def iH_20 : pm_H := iH_19 ++ [.inr (4, [.null, .int (0), .int (0)])]
noncomputable def iH_21 : pm_H := iH_20 ++ [.inl (0, 4, .inl (fun _ => 0))]
noncomputable def iH_22 : pm_H := iH_21.set 10 (.inr (4, [.ref 11, .int (0), .int (0)]))
noncomputable def iH_23 : pm_H := iH_22.set 5 (.inl (3, 6, .inr (.inr (.inr (.inr (va_up (va_up (fun _ => none) 0 (some 8)) 1 (some 10)))))))
noncomputable def iH_24 : pm_H := iH_23 ++ [.inr (4, [.null, .int (0), .int (0)])]
noncomputable def iH_25 : pm_H := iH_24 ++ [.inl (0, 4, .inl (fun _ => 0))]
noncomputable def iH_26 : pm_H := iH_25.set 12 (.inr (4, [.ref 13, .int (0), .int (0)]))
noncomputable def iH_27 : pm_H := iH_26.set 5 (.inl (3, 6, .inr (.inr (.inr (.inr (va_up (va_up (va_up (fun _ => none) 0 (some 8)) 1 (some 10)) 2 (some 12)))))))
noncomputable def iH_28 : pm_H := iH_27 ++ [.inr (4, [.null, .int (0), .int (0)])]
noncomputable def iH_29 : pm_H := iH_28 ++ [.inl (0, 4, .inl (fun _ => 0))]
noncomputable def iH_30 : pm_H := iH_29.set 14 (.inr (4, [.ref 15, .int (0), .int (0)]))
noncomputable def iH_31 : pm_H := iH_30.set 5 (.inl (3, 6, .inr (.inr (.inr (.inr (va_up (va_up (va_up (va_up (fun _ => none) 0 (some 8)) 1 (some 10)) 2 (some 12)) 3 (some 14)))))))
noncomputable def iH_32 : pm_H := iH_31 ++ [.inr (4, [.null, .int (0), .int (0)])]
noncomputable def iH_33 : pm_H := iH_32 ++ [.inl (0, 4, .inl (fun _ => 0))]
noncomputable def iH_34 : pm_H := iH_33.set 16 (.inr (4, [.ref 17, .int (0), .int (0)]))
noncomputable def iH_35 : pm_H := iH_34.set 5 (.inl (3, 6, .inr (.inr (.inr (.inr (va_up (va_up (va_up (va_up (va_up (fun _ => none) 0 (some 8)) 1 (some 10)) 2 (some 12)) 3 (some 14)) 4 (some 16)))))))
noncomputable def iH_36 : pm_H := iH_35 ++ [.inr (4, [.null, .int (0), .int (0)])]
noncomputable def iH_37 : pm_H := iH_36 ++ [.inl (0, 4, .inl (fun _ => 0))]
noncomputable def iH_38 : pm_H := iH_37.set 18 (.inr (4, [.ref 19, .int (0), .int (0)]))
noncomputable def iH_39 : pm_H := iH_38.set 5 (.inl (3, 6, .inr (.inr (.inr (.inr (va_up (va_up (va_up (va_up (va_up (va_up (fun _ => none) 0 (some 8)) 1 (some 10)) 2 (some 12)) 3 (some 14)) 4 (some 16)) 5 (some 18)))))))
noncomputable def iH_40 : pm_H := iH_39.set 0 (.inr (11, [.ref 1, .null, .null, .null, .null, .null]))
noncomputable def iH_41 : pm_H := iH_40 ++ [.inr (2, [.null, .null])]
noncomputable def iH_42 : pm_H := iH_41 ++ [.inr (0, [.null, .int (0)])]
noncomputable def iH_43 : pm_H := iH_42 ++ [.inl (0, 48, .inl (fun _ => 0))]
noncomputable def iH_44 : pm_H := iH_43.set 21 (.inr (0, [.ref 22, .int (0)]))
noncomputable def iH_45 : pm_H := iH_44.set 20 (.inr (2, [.ref 21, .null]))
noncomputable def iH_46 : pm_H := iH_45 ++ [.inl (1, 48, .inl (fun _ => 0))]
noncomputable def iH_47 : pm_H := iH_46.set 20 (.inr (2, [.ref 21, .ref 23]))
noncomputable def iH_48 : pm_H := iH_47.set 0 (.inr (11, [.ref 1, .ref 20, .null, .null, .null, .null]))
noncomputable def iH_49 : pm_H := iH_48 ++ [.inr (0, [.null, .int (0)])]
noncomputable def iH_50 : pm_H := iH_49 ++ [.inl (0, 120, .inl (fun _ => 0))]
noncomputable def iH_51 : pm_H := iH_50.set 24 (.inr (0, [.ref 25, .int (0)]))
noncomputable def iH_52 : pm_H := iH_51.set 0 (.inr (11, [.ref 1, .ref 20, .ref 24, .null, .null, .null]))
noncomputable def iH_53 : pm_H := iH_52.set 25 (.inl (0, 120, .inl (upd (fun _ => 0) 0 (0))))
noncomputable def iH_54 : pm_H := iH_53.set 24 (.inr (0, [.ref 25, .int (1)]))
noncomputable def iH_55 : pm_H := iH_54 ++ [.inr (8, [.null, .int (0), .null, .null, .null, .null, .int (0), .int (0), .int (0)])]
noncomputable def iH_56 : pm_H := iH_55 ++ [.inl (0, 48, .inl (fun _ => 0))]
noncomputable def iH_57 : pm_H := iH_56.set 26 (.inr (8, [.null, .int (0), .null, .null, .ref 27, .null, .int (0), .int (0), .int (0)]))
noncomputable def iH_58 : pm_H := iH_57 ++ [.inr (5, [.null, .int (0)])]
noncomputable def iH_59 : pm_H := iH_58 ++ [.inl (0, 9, .inl (fun _ => 0))]
noncomputable def iH_60 : pm_H := iH_59.set 28 (.inr (5, [.ref 29, .int (0)]))
noncomputable def iH_61 : pm_H := iH_60.set 26 (.inr (8, [.null, .int (0), .null, .null, .ref 27, .ref 28, .int (0), .int (0), .int (0)]))
noncomputable def iH_62 : pm_H := iH_61.set 26 (.inr (8, [.null, .int (0), .ref 1, .null, .ref 27, .ref 28, .int (0), .int (0), .int (0)]))
noncomputable def iH_63 : pm_H := iH_62.set 26 (.inr (8, [.null, .int (0), .ref 1, .ref 24, .ref 27, .ref 28, .int (0), .int (0), .int (0)]))
noncomputable def iH_64 : pm_H := iH_63 ++ [.inr (6, [.null, .null, .null])]
noncomputable def iH_65 : pm_H := iH_64 ++ [.inl (0, 441, .inl (fun _ => 0))]
noncomputable def iH_66 : pm_H := iH_65.set 30 (.inr (6, [.null, .ref 31, .null]))
noncomputable def iH_67 : pm_H := iH_66 ++ [.inl (0, 49, .inl (fun _ => 0))]
noncomputable def iH_68 : pm_H := iH_67.set 30 (.inr (6, [.null, .ref 31, .ref 32]))
noncomputable def iH_69 : pm_H := iH_68.set 30 (.inr (6, [.ref 1, .ref 31, .ref 32]))
noncomputable def iH_70 : pm_H := iH_69.set 32 (.inl (0, 49, .inl (flF 49 (-1) (fun _ => 0))))
noncomputable def iH_71 : pm_H := iH_70.set 26 (.inr (8, [.ref 30, .int (0), .ref 1, .ref 24, .ref 27, .ref 28, .int (0), .int (0), .int (0)]))
noncomputable def iH_72 : pm_H := iH_71.set 0 (.inr (11, [.ref 1, .ref 20, .ref 24, .ref 26, .null, .null]))
noncomputable def iH_73 : pm_H := iH_72 ++ [.inr (7, [.null, .null, .null, .null, .int (0)])]
noncomputable def iH_74 : pm_H := iH_73 ++ [.inr (5, [.null, .int (0)])]
noncomputable def iH_75 : pm_H := iH_74 ++ [.inl (0, 9, .inl (fun _ => 0))]
noncomputable def iH_76 : pm_H := iH_75.set 34 (.inr (5, [.ref 35, .int (0)]))
noncomputable def iH_77 : pm_H := iH_76.set 33 (.inr (7, [.ref 34, .null, .null, .null, .int (0)]))
noncomputable def iH_78 : pm_H := iH_77 ++ [.inl (0, 4, .inl (fun _ => 0))]
noncomputable def iH_79 : pm_H := iH_78.set 33 (.inr (7, [.ref 34, .null, .null, .ref 36, .int (0)]))
noncomputable def iH_80 : pm_H := iH_79.set 33 (.inr (7, [.ref 34, .ref 1, .null, .ref 36, .int (0)]))
noncomputable def iH_81 : pm_H := iH_80.set 33 (.inr (7, [.ref 34, .ref 1, .ref 20, .ref 36, .int (0)]))
noncomputable def iH_82 : pm_H := iH_81 ++ [.inr (1, [.null, .null, .null, .null])]
noncomputable def iH_83 : pm_H := iH_82.set 37 (.inr (1, [.ref 1, .null, .null, .null]))
noncomputable def iH_84 : pm_H := iH_83.set 37 (.inr (1, [.ref 1, .ref 20, .null, .null]))
noncomputable def iH_85 : pm_H := iH_84.set 37 (.inr (1, [.ref 1, .ref 20, .ref 33, .null]))
noncomputable def iH_86 : pm_H := iH_85.set 37 (.inr (1, [.ref 1, .ref 20, .ref 33, .ref 30]))
noncomputable def iH_87 : pm_H := iH_86.set 0 (.inr (11, [.ref 1, .ref 20, .ref 24, .ref 26, .ref 37, .null]))
noncomputable def iH_88 : pm_H := iH_87 ++ [.inr (3, [.null, .null, .null, .null, .null, .null, .null])]
noncomputable def iH_89 : pm_H := iH_88 ++ [.inr (9, [.null, .null, .int (0), .int (0)])]
noncomputable def iH_90 : pm_H := iH_89 ++ [.inr (0, [.null, .int (0)])]
noncomputable def iH_91 : pm_H := iH_90 ++ [.inl (0, 120, .inl (fun _ => 0))]
noncomputable def iH_92 : pm_H := iH_91.set 40 (.inr (0, [.ref 41, .int (0)]))
noncomputable def iH_93 : pm_H := iH_92.set 39 (.inr (9, [.ref 40, .null, .int (0), .int (0)]))
noncomputable def iH_94 : pm_H := iH_93 ++ [.inl (0, 4, .inl (fun _ => 0))]
noncomputable def iH_95 : pm_H := iH_94.set 39 (.inr (9, [.ref 40, .ref 42, .int (0), .int (0)]))
noncomputable def iH_96 : pm_H := iH_95.set 38 (.inr (3, [.null, .null, .null, .null, .ref 39, .null, .null]))
noncomputable def iH_97 : pm_H := iH_96 ++ [.inl (1, 49, .inl (fun _ => 0))]
noncomputable def iH_98 : pm_H := iH_97.set 38 (.inr (3, [.null, .null, .null, .null, .ref 39, .ref 43, .null]))
noncomputable def iH_99 : pm_H := iH_98 ++ [.inl (1, 49, .inl (fun _ => 0))]
noncomputable def iH_100 : pm_H := iH_99.set 38 (.inr (3, [.null, .null, .null, .null, .ref 39, .ref 43, .ref 44]))
noncomputable def iH_101 : pm_H := iH_100.set 38 (.inr (3, [.ref 1, .null, .null, .null, .ref 39, .ref 43, .ref 44]))
noncomputable def iH_102 : pm_H := iH_101.set 38 (.inr (3, [.ref 1, .ref 20, .null, .null, .ref 39, .ref 43, .ref 44]))
noncomputable def iH_103 : pm_H := iH_102.set 38 (.inr (3, [.ref 1, .ref 20, .ref 33, .null, .ref 39, .ref 43, .ref 44]))
noncomputable def iH_104 : pm_H := iH_103 ++ [.inr (6, [.null, .null, .null])]
noncomputable def iH_105 : pm_H := iH_104 ++ [.inl (0, 441, .inl (fun _ => 0))]
noncomputable def iH_106 : pm_H := iH_105.set 45 (.inr (6, [.null, .ref 46, .null]))
noncomputable def iH_107 : pm_H := iH_106 ++ [.inl (0, 49, .inl (fun _ => 0))]
noncomputable def iH_108 : pm_H := iH_107.set 45 (.inr (6, [.null, .ref 46, .ref 47]))
noncomputable def iH_109 : pm_H := iH_108.set 45 (.inr (6, [.ref 1, .ref 46, .ref 47]))
noncomputable def iH_110 : pm_H := iH_109.set 47 (.inl (0, 49, .inl (flF 49 (-1) (fun _ => 0))))
noncomputable def iH_111 : pm_H := iH_110.set 38 (.inr (3, [.ref 1, .ref 20, .ref 33, .ref 45, .ref 39, .ref 43, .ref 44]))
noncomputable def iH_112 : pm_H := iH_111.set 0 (.inr (11, [.ref 1, .ref 20, .ref 24, .ref 26, .ref 37, .ref 38]))
noncomputable def iH_113 : pm_H := iH_112 ++ [.inr (12, [.int (0), .null, .null, .null, .null, .null, .null, .null, .int (0), .int (0), .null, .int (0), .null, .int (0), .int (0), .null, .null, .null, .int (0), .int (0), .null, .int (0), .int (0), .int (0), .null, .null, .null, .null, .null, .null, .int (0), .null])]
noncomputable def iH_114 : pm_H := iH_113 ++ [.inl (0, 8, .inl (fun _ => 0))]
noncomputable def iH_115 : pm_H := iH_114.set 48 (.inr (12, [.int (0), .ref 49, .null, .null, .null, .null, .null, .null, .int (0), .int (0), .null, .int (0), .null, .int (0), .int (0), .null, .null, .null, .int (0), .int (0), .null, .int (0), .int (0), .int (0), .null, .null, .null, .null, .null, .null, .int (0), .null]))
noncomputable def iH_116 : pm_H := iH_115 ++ [.inl (0, 6, .inl (fun _ => 0))]
noncomputable def iH_117 : pm_H := iH_116.set 48 (.inr (12, [.int (0), .ref 49, .ref 50, .null, .null, .null, .null, .null, .int (0), .int (0), .null, .int (0), .null, .int (0), .int (0), .null, .null, .null, .int (0), .int (0), .null, .int (0), .int (0), .int (0), .null, .null, .null, .null, .null, .null, .int (0), .null]))
noncomputable def iH_118 : pm_H := iH_117 ++ [.inl (0, 6, .inl (fun _ => 0))]
noncomputable def iH_119 : pm_H := iH_118.set 48 (.inr (12, [.int (0), .ref 49, .ref 50, .ref 51, .null, .null, .null, .null, .int (0), .int (0), .null, .int (0), .null, .int (0), .int (0), .null, .null, .null, .int (0), .int (0), .null, .int (0), .int (0), .int (0), .null, .null, .null, .null, .null, .null, .int (0), .null]))
noncomputable def iH_120 : pm_H := iH_119 ++ [.inl (0, 18, .inl (fun _ => 0))]
noncomputable def iH_121 : pm_H := iH_120.set 48 (.inr (12, [.int (0), .ref 49, .ref 50, .ref 51, .ref 52, .null, .null, .null, .int (0), .int (0), .null, .int (0), .null, .int (0), .int (0), .null, .null, .null, .int (0), .int (0), .null, .int (0), .int (0), .int (0), .null, .null, .null, .null, .null, .null, .int (0), .null]))
noncomputable def iH_122 : pm_H := iH_121 ++ [.inl (0, 6, .inl (fun _ => 0))]
noncomputable def iH_123 : pm_H := iH_122.set 48 (.inr (12, [.int (0), .ref 49, .ref 50, .ref 51, .ref 52, .ref 53, .null, .null, .int (0), .int (0), .null, .int (0), .null, .int (0), .int (0), .null, .null, .null, .int (0), .int (0), .null, .int (0), .int (0), .int (0), .null, .null, .null, .null, .null, .null, .int (0), .null]))
noncomputable def iH_124 : pm_H := iH_123 ++ [.inl (0, 6, .inl (fun _ => 0))]
noncomputable def iH_125 : pm_H := iH_124.set 48 (.inr (12, [.int (0), .ref 49, .ref 50, .ref 51, .ref 52, .ref 53, .ref 54, .null, .int (0), .int (0), .null, .int (0), .null, .int (0), .int (0), .null, .null, .null, .int (0), .int (0), .null, .int (0), .int (0), .int (0), .null, .null, .null, .null, .null, .null, .int (0), .null]))
noncomputable def iH_126 : pm_H := iH_125 ++ [.inl (0, 4, .inl (fun _ => 0))]
noncomputable def iH_127 : pm_H := iH_126.set 48 (.inr (12, [.int (0), .ref 49, .ref 50, .ref 51, .ref 52, .ref 53, .ref 54, .ref 55, .int (0), .int (0), .null, .int (0), .null, .int (0), .int (0), .null, .null, .null, .int (0), .int (0), .null, .int (0), .int (0), .int (0), .null, .null, .null, .null, .null, .null, .int (0), .null]))
noncomputable def iH_128 : pm_H := iH_127 ++ [.inl (0, 48, .inl (fun _ => 0))]
noncomputable def iH_129 : pm_H := iH_128.set 48 (.inr (12, [.int (0), .ref 49, .ref 50, .ref 51, .ref 52, .ref 53, .ref 54, .ref 55, .int (0), .int (0), .ref 56, .int (0), .null, .int (0), .int (0), .null, .null, .null, .int (0), .int (0), .null, .int (0), .int (0), .int (0), .null, .null, .null, .null, .null, .null, .int (0), .null]))
noncomputable def iH_130 : pm_H := iH_129 ++ [.inl (0, 120, .inl (fun _ => 0))]
noncomputable def iH_131 : pm_H := iH_130.set 48 (.inr (12, [.int (0), .ref 49, .ref 50, .ref 51, .ref 52, .ref 53, .ref 54, .ref 55, .int (0), .int (0), .ref 56, .int (0), .ref 57, .int (0), .int (0), .null, .null, .null, .int (0), .int (0), .null, .int (0), .int (0), .int (0), .null, .null, .null, .null, .null, .null, .int (0), .null]))
noncomputable def iH_132 : pm_H := iH_131.set 48 (.inr (12, [.int (0), .ref 49, .ref 50, .ref 51, .ref 52, .ref 53, .ref 54, .ref 55, .int (0), .int (0), .ref 56, .int (0), .ref 57, .int (1), .int (0), .null, .null, .null, .int (0), .int (0), .null, .int (0), .int (0), .int (0), .null, .null, .null, .null, .null, .null, .int (0), .null]))
noncomputable def iH_133 : pm_H := iH_132 ++ [.inl (0, 48, .inl (fun _ => 0))]
noncomputable def iH_134 : pm_H := iH_133.set 48 (.inr (12, [.int (0), .ref 49, .ref 50, .ref 51, .ref 52, .ref 53, .ref 54, .ref 55, .int (0), .int (0), .ref 56, .int (0), .ref 57, .int (1), .int (0), .ref 58, .null, .null, .int (0), .int (0), .null, .int (0), .int (0), .int (0), .null, .null, .null, .null, .null, .null, .int (0), .null]))
noncomputable def iH_135 : pm_H := iH_134 ++ [.inl (0, 48, .inl (fun _ => 0))]
noncomputable def iH_136 : pm_H := iH_135.set 48 (.inr (12, [.int (0), .ref 49, .ref 50, .ref 51, .ref 52, .ref 53, .ref 54, .ref 55, .int (0), .int (0), .ref 56, .int (0), .ref 57, .int (1), .int (0), .ref 58, .ref 59, .null, .int (0), .int (0), .null, .int (0), .int (0), .int (0), .null, .null, .null, .null, .null, .null, .int (0), .null]))
noncomputable def iH_137 : pm_H := iH_136 ++ [.inl (0, 480, .inl (fun _ => 0))]
noncomputable def iH_138 : pm_H := iH_137.set 48 (.inr (12, [.int (0), .ref 49, .ref 50, .ref 51, .ref 52, .ref 53, .ref 54, .ref 55, .int (0), .int (0), .ref 56, .int (0), .ref 57, .int (1), .int (0), .ref 58, .ref 59, .ref 60, .int (0), .int (0), .null, .int (0), .int (0), .int (0), .null, .null, .null, .null, .null, .null, .int (0), .null]))
noncomputable def iH_139 : pm_H := iH_138 ++ [.inl (0, 10, .inl (fun _ => 0))]
noncomputable def iH_140 : pm_H := iH_139.set 48 (.inr (12, [.int (0), .ref 49, .ref 50, .ref 51, .ref 52, .ref 53, .ref 54, .ref 55, .int (0), .int (0), .ref 56, .int (0), .ref 57, .int (1), .int (0), .ref 58, .ref 59, .ref 60, .int (0), .int (0), .ref 61, .int (0), .int (0), .int (0), .null, .null, .null, .null, .null, .null, .int (0), .null]))
noncomputable def iH_141 : pm_H := iH_140 ++ [.inl (1, 49, .inl (fun _ => 0))]
noncomputable def iH_142 : pm_H := iH_141.set 48 (.inr (12, [.int (0), .ref 49, .ref 50, .ref 51, .ref 52, .ref 53, .ref 54, .ref 55, .int (0), .int (0), .ref 56, .int (0), .ref 57, .int (1), .int (0), .ref 58, .ref 59, .ref 60, .int (0), .int (0), .ref 61, .int (0), .int (0), .int (0), .ref 62, .null, .null, .null, .null, .null, .int (0), .null]))
noncomputable def iH_143 : pm_H := iH_142 ++ [.inl (1, 49, .inl (fun _ => 0))]
noncomputable def iH_144 : pm_H := iH_143.set 48 (.inr (12, [.int (0), .ref 49, .ref 50, .ref 51, .ref 52, .ref 53, .ref 54, .ref 55, .int (0), .int (0), .ref 56, .int (0), .ref 57, .int (1), .int (0), .ref 58, .ref 59, .ref 60, .int (0), .int (0), .ref 61, .int (0), .int (0), .int (0), .ref 62, .ref 63, .null, .null, .null, .null, .int (0), .null]))
noncomputable def iH_145 : pm_H := iH_144 ++ [.inl (1, 49, .inl (fun _ => 0))]
noncomputable def iH_146 : pm_H := iH_145.set 48 (.inr (12, [.int (0), .ref 49, .ref 50, .ref 51, .ref 52, .ref 53, .ref 54, .ref 55, .int (0), .int (0), .ref 56, .int (0), .ref 57, .int (1), .int (0), .ref 58, .ref 59, .ref 60, .int (0), .int (0), .ref 61, .int (0), .int (0), .int (0), .ref 62, .ref 63, .ref 64, .null, .null, .null, .int (0), .null]))
noncomputable def iH_147 : pm_H := iH_146 ++ [.inl (1, 49, .inl (fun _ => 0))]
noncomputable def iH_148 : pm_H := iH_147.set 48 (.inr (12, [.int (0), .ref 49, .ref 50, .ref 51, .ref 52, .ref 53, .ref 54, .ref 55, .int (0), .int (0), .ref 56, .int (0), .ref 57, .int (1), .int (0), .ref 58, .ref 59, .ref 60, .int (0), .int (0), .ref 61, .int (0), .int (0), .int (0), .ref 62, .ref 63, .ref 64, .ref 65, .null, .null, .int (0), .null]))
noncomputable def iH_149 : pm_H := iH_148 ++ [.inl (0, 490, .inl (fun _ => 0))]
noncomputable def iH_150 : pm_H := iH_149.set 48 (.inr (12, [.int (0), .ref 49, .ref 50, .ref 51, .ref 52, .ref 53, .ref 54, .ref 55, .int (0), .int (0), .ref 56, .int (0), .ref 57, .int (1), .int (0), .ref 58, .ref 59, .ref 60, .int (0), .int (0), .ref 61, .int (0), .int (0), .int (0), .ref 62, .ref 63, .ref 64, .ref 65, .ref 66, .null, .int (0), .null]))
noncomputable def iH_151 : pm_H := iH_150 ++ [.inl (0, 700, .inl (fun _ => 0))]
noncomputable def iH_152 : pm_H := iH_151.set 48 (.inr (12, [.int (0), .ref 49, .ref 50, .ref 51, .ref 52, .ref 53, .ref 54, .ref 55, .int (0), .int (0), .ref 56, .int (0), .ref 57, .int (1), .int (0), .ref 58, .ref 59, .ref 60, .int (0), .int (0), .ref 61, .int (0), .int (0), .int (0), .ref 62, .ref 63, .ref 64, .ref 65, .ref 66, .ref 67, .int (0), .null]))
noncomputable def iH_153 : pm_H := iH_152 ++ [.inl (0, 4, .inl (fun _ => 0))]
noncomputable def iH_154 : pm_H := iH_153.set 48 (.inr (12, [.int (0), .ref 49, .ref 50, .ref 51, .ref 52, .ref 53, .ref 54, .ref 55, .int (0), .int (0), .ref 56, .int (0), .ref 57, .int (1), .int (0), .ref 58, .ref 59, .ref 60, .int (0), .int (0), .ref 61, .int (0), .int (0), .int (0), .ref 62, .ref 63, .ref 64, .ref 65, .ref 66, .ref 67, .int (0), .ref 68]))
noncomputable def iH_155 : pm_H := iH_154.set 51 (.inl (0, 6, .inl (upd (fun _ => 0) 0 (1))))
noncomputable def iH_156 : pm_H := iH_155.set 51 (.inl (0, 6, .inl (upd (upd (fun _ => 0) 0 (1)) 1 (1))))
noncomputable def iH_157 : pm_H := iH_156.set 51 (.inl (0, 6, .inl (upd (upd (upd (fun _ => 0) 0 (1)) 1 (1)) 2 (1))))
noncomputable def iH_158 : pm_H := iH_157.set 51 (.inl (0, 6, .inl (upd (upd (upd (upd (fun _ => 0) 0 (1)) 1 (1)) 2 (1)) 3 (1))))
noncomputable def iH_159 : pm_H := iH_158.set 51 (.inl (0, 6, .inl (upd (upd (upd (upd (upd (fun _ => 0) 0 (1)) 1 (1)) 2 (1)) 3 (1)) 4 (1))))
noncomputable def iH_160 : pm_H := iH_159.set 51 (.inl (0, 6, .inl (upd (upd (upd (upd (upd (upd (fun _ => 0) 0 (1)) 1 (1)) 2 (1)) 3 (1)) 4 (1)) 5 (1))))
noncomputable def iH_161 : pm_H := iH_160 ++ [.inl (2, 1, .inr (.inl (fun _ => 0)))]
set_option maxRecDepth 100000 in
theorem i_s1 (ol : pm_O) (orc : pm_Q) : pm_F ol orc 168 0 [(0, .ref 1000)] [] iH_0 = pm_F ol orc 168 3 [(0, .ref 1000)] [.ref 0] iH_1 := pm_F_nx rfl rfl rfl rfl
set_option maxRecDepth 100000 in
theorem i_s2 (ol : pm_O) (orc : pm_Q) : pm_F ol orc 168 3 [(0, .ref 1000)] [.ref 0] iH_1 = pm_F ol orc 168 4 [(0, .ref 1000)] [.ref 0, .ref 0] iH_1 := pm_F_nx rfl rfl rfl rfl
set_option maxRecDepth 100000 in
theorem i_s3 (ol : pm_O) (orc : pm_Q) : pm_F ol orc 98 0 [(0, .ref 0)] [] iH_1 = pm_F ol orc 98 1 [(0, .ref 0)] [.ref 0] iH_1 := pm_F_nx rfl rfl rfl rfl
set_option maxRecDepth 100000 in
theorem i_s4 (ol : pm_O) (orc : pm_Q) : pm_F ol orc 98 1 [(0, .ref 0)] [.ref 0] iH_1 = pm_F ol orc 98 4 [(0, .ref 0)] [] iH_1 := pm_F_nx rfl rfl rfl rfl
set_option maxRecDepth 100000 in
theorem i_s5 (ol : pm_O) (orc : pm_Q) : pm_F ol orc 98 4 [(0, .ref 0)] [] iH_1 = pm_F ol orc 98 5 [(0, .ref 0)] [.ref 0] iH_1 := pm_F_nx rfl rfl rfl rfl
set_option maxRecDepth 100000 in
theorem i_s6 (ol : pm_O) (orc : pm_Q) : pm_F ol orc 98 5 [(0, .ref 0)] [.ref 0] iH_1 = pm_F ol orc 98 8 [(0, .ref 0)] [.ref 1, .ref 0] iH_2 := pm_F_nx rfl rfl rfl rfl
set_option maxRecDepth 100000 in
theorem i_s7 (ol : pm_O) (orc : pm_Q) : pm_F ol orc 98 8 [(0, .ref 0)] [.ref 1, .ref 0] iH_2 = pm_F ol orc 98 9 [(0, .ref 0)] [.ref 1, .ref 1, .ref 0] iH_2 := pm_F_nx rfl rfl rfl rfl
set_option maxRecDepth 100000 in
theorem i_s8 (ol : pm_O) (orc : pm_Q) : pm_F ol orc 86 0 [(0, .ref 1)] [] iH_2 = pm_F ol orc 86 1 [(0, .ref 1)] [.ref 1] iH_2 := pm_F_nx rfl rfl rfl rfl
set_option maxRecDepth 100000 in
theorem i_s9 (ol : pm_O) (orc : pm_Q) : pm_F ol orc 86 1 [(0, .ref 1)] [.ref 1] iH_2 = pm_F ol orc 86 4 [(0, .ref 1)] [] iH_2 := pm_F_nx rfl rfl rfl rfl
set_option maxRecDepth 100000 in
theorem i_s10 (ol : pm_O) (orc : pm_Q) : pm_F ol orc 86 4 [(0, .ref 1)] [] iH_2 = pm_F ol orc 86 5 [(0, .ref 1)] [.ref 1] iH_2 := pm_F_nx rfl rfl rfl rfl
set_option maxRecDepth 100000 in
theorem i_s11 (ol : pm_O) (orc : pm_Q) : pm_F ol orc 86 5 [(0, .ref 1)] [.ref 1] iH_2 = pm_F ol orc 86 7 [(0, .ref 1)] [.int (8), .ref 1] iH_2 := pm_F_nx rfl rfl rfl rfl
set_option maxRecDepth 100000 in
theorem i_s12 (ol : pm_O) (orc : pm_Q) : pm_F ol orc 86 7 [(0, .ref 1)] [.int (8), .ref 1] iH_2 = pm_F ol orc 86 9 [(0, .ref 1)] [.ref 2, .ref 1] iH_3 := pm_F_nx rfl rfl rfl rfl
set_option maxRecDepth 100000 in
theorem i_s13 (ol : pm_O) (orc : pm_Q) : pm_F ol orc 86 9 [(0, .ref 1)] [.ref 2, .ref 1] iH_3 = pm_F ol orc 86 12 [(0, .ref 1)] [] iH_4 := pm_F_nx rfl rfl rfl rfl
set_option maxRecDepth 100000 in
theorem i_s14 (ol : pm_O) (orc : pm_Q) : pm_F ol orc 86 12 [(0, .ref 1)] [] iH_4 = pm_F ol orc 86 13 [(0, .ref 1)] [.ref 1] iH_4 := pm_F_nx rfl rfl rfl rfl
set_option maxRecDepth 100000 in
theorem i_s15 (ol : pm_O) (orc : pm_Q) : pm_F ol orc 86 13 [(0, .ref 1)] [.ref 1] iH_4 = pm_F ol orc 86 15 [(0, .ref 1)] [.int (6), .ref 1] iH_4 := pm_F_nx rfl rfl rfl rfl
set_option maxRecDepth 100000 in
theorem i_s16 (ol : pm_O) (orc : pm_Q) : pm_F ol orc 86 15 [(0, .ref 1)] [.int (6), .ref 1] iH_4 = pm_F ol orc 86 17 [(0, .ref 1)] [.ref 3, .ref 1] iH_5 := pm_F_nx rfl rfl rfl rfl
set_option maxRecDepth 100000 in
theorem i_s17 (ol : pm_O) (orc : pm_Q) : pm_F ol orc 86 17 [(0, .ref 1)] [.ref 3, .ref 1] iH_5 = pm_F ol orc 86 20 [(0, .ref 1)] [] iH_6 := pm_F_nx rfl rfl rfl rfl
set_option maxRecDepth 100000 in
theorem i_s18 (ol : pm_O) (orc : pm_Q) : pm_F ol orc 86 20 [(0, .ref 1)] [] iH_6 = pm_F ol orc 86 21 [(0, .ref 1)] [.ref 1] iH_6 := pm_F_nx rfl rfl rfl rfl
set_option maxRecDepth 100000 in
theorem i_s19 (ol : pm_O) (orc : pm_Q) : pm_F ol orc 86 21 [(0, .ref 1)] [.ref 1] iH_6 = pm_F ol orc 86 23 [(0, .ref 1)] [.int (6), .ref 1] iH_6 := pm_F_nx rfl rfl rfl rfl
set_option maxRecDepth 100000 in
theorem i_s20 (ol : pm_O) (orc : pm_Q) : pm_F ol orc 86 23 [(0, .ref 1)] [.int (6), .ref 1] iH_6 = pm_F ol orc 86 25 [(0, .ref 1)] [.ref 4, .ref 1] iH_7 := pm_F_nx rfl rfl rfl rfl
set_option maxRecDepth 100000 in
theorem i_s21 (ol : pm_O) (orc : pm_Q) : pm_F ol orc 86 25 [(0, .ref 1)] [.ref 4, .ref 1] iH_7 = pm_F ol orc 86 28 [(0, .ref 1)] [] iH_8 := pm_F_nx rfl rfl rfl rfl
set_option maxRecDepth 100000 in
theorem i_s22 (ol : pm_O) (orc : pm_Q) : pm_F ol orc 86 28 [(0, .ref 1)] [] iH_8 = pm_F ol orc 86 29 [(0, .ref 1)] [.ref 1] iH_8 := pm_F_nx rfl rfl rfl rfl
set_option maxRecDepth 100000 in
theorem i_s23 (ol : pm_O) (orc : pm_Q) : pm_F ol orc 86 29 [(0, .ref 1)] [.ref 1] iH_8 = pm_F ol orc 86 31 [(0, .ref 1)] [.int (6), .ref 1] iH_8 := pm_F_nx rfl rfl rfl rfl
set_option maxRecDepth 100000 in
theorem i_s24 (ol : pm_O) (orc : pm_Q) : pm_F ol orc 86 31 [(0, .ref 1)] [.int (6), .ref 1] iH_8 = pm_F ol orc 86 34 [(0, .ref 1)] [.ref 5, .ref 1] iH_9 := pm_F_nx rfl rfl rfl rfl
set_option maxRecDepth 100000 in
theorem i_s25 (ol : pm_O) (orc : pm_Q) : pm_F ol orc 86 34 [(0, .ref 1)] [.ref 5, .ref 1] iH_9 = pm_F ol orc 86 37 [(0, .ref 1)] [] iH_10 := pm_F_nx rfl rfl rfl rfl
set_option maxRecDepth 100000 in
theorem i_s26 (ol : pm_O) (orc : pm_Q) : pm_F ol orc 86 37 [(0, .ref 1)] [] iH_10 = pm_F ol orc 86 38 [(0, .ref 1)] [.ref 1] iH_10 := pm_F_nx rfl rfl rfl rfl
set_option maxRecDepth 100000 in
theorem i_s27 (ol : pm_O) (orc : pm_Q) : pm_F ol orc 86 38 [(0, .ref 1)] [.ref 1] iH_10 = pm_F ol orc 86 41 [(0, .ref 1)] [.ref 6, .ref 1] iH_11 := pm_F_nx rfl rfl rfl rfl
set_option maxRecDepth 100000 in
theorem i_s28 (ol : pm_O) (orc : pm_Q) : pm_F ol orc 86 41 [(0, .ref 1)] [.ref 6, .ref 1] iH_11 = pm_F ol orc 86 42 [(0, .ref 1)] [.ref 6, .ref 6, .ref 1] iH_11 := pm_F_nx rfl rfl rfl rfl
set_option maxRecDepth 100000 in
theorem i_s29 (ol : pm_O) (orc : pm_Q) : pm_F ol orc 37 0 [(0, .ref 6)] [] iH_11 = pm_F ol orc 37 1 [(0, .ref 6)] [.ref 6] iH_11 := pm_F_nx rfl rfl rfl rfl
set_option maxRecDepth 100000 in
theorem i_s30 (ol : pm_O) (orc : pm_Q) : pm_F ol orc 37 1 [(0, .ref 6)] [.ref 6] iH_11 = pm_F ol orc 37 4 [(0, .ref 6)] [] iH_11 := pm_F_nx rfl rfl rfl rfl
set_option maxRecDepth 100000 in
theorem i_s31 (ol : pm_O) (orc : pm_Q) : pm_F ol orc 37 4 [(0, .ref 6)] [] iH_11 = pm_F ol orc 37 5 [] [.ref 6] iH_11 := pm_F_nx rfl rfl rfl rfl
set_option maxRecDepth 100000 in
theorem i_s32 (ol : pm_O) (orc : pm_Q) : pm_F ol orc 37 5 [] [.ref 6] iH_11 = pm_F ol orc 37 6 [] [.int (4), .ref 6] iH_11 := pm_F_nx rfl rfl rfl rfl
set_option maxRecDepth 100000 in
theorem i_s33 (ol : pm_O) (orc : pm_Q) : pm_F ol orc 37 6 [] [.int (4), .ref 6] iH_11 = pm_F ol orc 37 8 [] [.ref 7, .ref 6] iH_12 := pm_F_nx rfl rfl rfl rfl
set_option maxRecDepth 100000 in
theorem i_s34 (ol : pm_O) (orc : pm_Q) : pm_F ol orc 37 8 [] [.ref 7, .ref 6] iH_12 = pm_F ol orc 37 11 [] [] iH_13 := pm_F_nx rfl rfl rfl rfl
set_option maxRecDepth 100000 in
theorem i_s35 (ol : pm_O) (orc : pm_Q) : pm_F ol orc 37 11 [] [] iH_13 = some (none, iH_13) := pm_F_rt rfl rfl rfl
set_option maxRecDepth 100000 in
theorem i_c0 (ol : pm_O) (orc : pm_Q) : pm_V ol orc 37 [.ref 6] iH_11 = some (none, iH_13) := (show pm_V ol orc 37 [.ref 6] iH_11 = pm_F ol orc 37 0 [(0, .ref 6)] [] iH_11 from (if_pos (r_le rfl)).trans (pm_F_live rfl)).trans ((i_s29 ol orc).trans ((i_s30 ol orc).trans ((i_s31 ol orc).trans ((i_s32 ol orc).trans ((i_s33 ol orc).trans ((i_s34 ol orc).trans (i_s35 ol orc)))))))
set_option maxRecDepth 100000 in
theorem i_s36 (ol : pm_O) (orc : pm_Q) : pm_F ol orc 86 42 [(0, .ref 1)] [.ref 6, .ref 6, .ref 1] iH_11 = pm_F ol orc 86 45 [(0, .ref 1)] [.ref 6, .ref 1] iH_13 := (r_vc rfl rfl rfl rfl rfl rfl (r_le rfl) (r_le rfl) rfl).trans ((if_pos rfl).trans (by rw [i_c0]; rfl))
set_option maxRecDepth 100000 in
theorem i_s37 (ol : pm_O) (orc : pm_Q) : pm_F ol orc 86 45 [(0, .ref 1)] [.ref 6, .ref 1] iH_13 = pm_F ol orc 86 48 [(0, .ref 1)] [] iH_14 := pm_F_nx rfl rfl rfl rfl
set_option maxRecDepth 100000 in
theorem i_s38 (ol : pm_O) (orc : pm_Q) : pm_F ol orc 86 48 [(0, .ref 1)] [] iH_14 = pm_F ol orc 86 49 [(0, .ref 1)] [.ref 1] iH_14 := pm_F_nx rfl rfl rfl rfl
set_option maxRecDepth 100000 in
theorem i_s39 (ol : pm_O) (orc : pm_Q) : pm_F ol orc 86 49 [(0, .ref 1)] [.ref 1] iH_14 = pm_F ol orc 86 52 [(0, .ref 1)] [.ref 4] iH_14 := pm_F_nx rfl rfl rfl rfl
set_option maxRecDepth 100000 in
theorem i_s40 (ol : pm_O) (orc : pm_Q) : pm_F ol orc 86 52 [(0, .ref 1)] [.ref 4] iH_14 = pm_F ol orc 86 53 [(0, .ref 1)] [.int (1), .ref 4] iH_14 := pm_F_nx rfl rfl rfl rfl
set_option maxRecDepth 100000 in
theorem i_c1 (ol : pm_O) (orc : pm_Q) : pm_V ol orc 167 [.ref 4, .int (1)] iH_14 = some (none, iH_15) := fillG ol orc (a := 4) (n := 6) (1) (by decide) (by decide) rfl
set_option maxRecDepth 100000 in
theorem i_s41 (ol : pm_O) (orc : pm_Q) : pm_F ol orc 86 53 [(0, .ref 1)] [.int (1), .ref 4] iH_14 = pm_F ol orc 86 56 [(0, .ref 1)] [] iH_15 := (r_sc rfl rfl rfl rfl (r_le rfl) (Or.inr (r_le rfl)) rfl).trans (by rw [i_c1]; rfl)
set_option maxRecDepth 100000 in
theorem i_s42 (ol : pm_O) (orc : pm_Q) : pm_F ol orc 86 56 [(0, .ref 1)] [] iH_15 = pm_F ol orc 86 57 [(0, .ref 1)] [.int (0)] iH_15 := pm_F_nx rfl rfl rfl rfl
set_option maxRecDepth 100000 in
theorem i_s43 (ol : pm_O) (orc : pm_Q) : pm_F ol orc 86 57 [(0, .ref 1)] [.int (0)] iH_15 = pm_F ol orc 86 58 [(0, .ref 1), (1, .int (0))] [] iH_15 := pm_F_nx rfl rfl rfl rfl
set_option maxRecDepth 100000 in
theorem i_s44 (ol : pm_O) (orc : pm_Q) : pm_F ol orc 86 58 [(0, .ref 1), (1, .int (0))] [] iH_15 = pm_F ol orc 86 59 [(0, .ref 1), (1, .int (0))] [.int (0)] iH_15 := pm_F_nx rfl rfl rfl rfl
set_option maxRecDepth 100000 in
theorem i_s45 (ol : pm_O) (orc : pm_Q) : pm_F ol orc 86 59 [(0, .ref 1), (1, .int (0))] [.int (0)] iH_15 = pm_F ol orc 86 61 [(0, .ref 1), (1, .int (0))] [.int (6), .int (0)] iH_15 := pm_F_nx rfl rfl rfl rfl
set_option maxRecDepth 100000 in
theorem i_s46 (ol : pm_O) (orc : pm_Q) : pm_F ol orc 86 61 [(0, .ref 1), (1, .int (0))] [.int (6), .int (0)] iH_15 = pm_F ol orc 86 64 [(0, .ref 1), (1, .int (0))] [] iH_15 := pm_F_nx rfl rfl rfl rfl
set_option maxRecDepth 100000 in
theorem i_s47 (ol : pm_O) (orc : pm_Q) : pm_F ol orc 86 64 [(0, .ref 1), (1, .int (0))] [] iH_15 = pm_F ol orc 86 65 [(0, .ref 1), (1, .int (0))] [.ref 1] iH_15 := pm_F_nx rfl rfl rfl rfl
set_option maxRecDepth 100000 in
theorem i_s48 (ol : pm_O) (orc : pm_Q) : pm_F ol orc 86 65 [(0, .ref 1), (1, .int (0))] [.ref 1] iH_15 = pm_F ol orc 86 68 [(0, .ref 1), (1, .int (0))] [.ref 5] iH_15 := pm_F_nx rfl rfl rfl rfl
set_option maxRecDepth 100000 in
theorem i_s49 (ol : pm_O) (orc : pm_Q) : pm_F ol orc 86 68 [(0, .ref 1), (1, .int (0))] [.ref 5] iH_15 = pm_F ol orc 86 69 [(0, .ref 1), (1, .int (0))] [.int (0), .ref 5] iH_15 := pm_F_nx rfl rfl rfl rfl
set_option maxRecDepth 100000 in
theorem i_s50 (ol : pm_O) (orc : pm_Q) : pm_F ol orc 86 69 [(0, .ref 1), (1, .int (0))] [.int (0), .ref 5] iH_15 = pm_F ol orc 86 72 [(0, .ref 1), (1, .int (0))] [.ref 8, .int (0), .ref 5] iH_16 := pm_F_nx rfl rfl rfl rfl
set_option maxRecDepth 100000 in
theorem i_s51 (ol : pm_O) (orc : pm_Q) : pm_F ol orc 86 72 [(0, .ref 1), (1, .int (0))] [.ref 8, .int (0), .ref 5] iH_16 = pm_F ol orc 86 73 [(0, .ref 1), (1, .int (0))] [.ref 8, .ref 8, .int (0), .ref 5] iH_16 := pm_F_nx rfl rfl rfl rfl
set_option maxRecDepth 100000 in
theorem i_s52 (ol : pm_O) (orc : pm_Q) : pm_F ol orc 37 0 [(0, .ref 8)] [] iH_16 = pm_F ol orc 37 1 [(0, .ref 8)] [.ref 8] iH_16 := pm_F_nx rfl rfl rfl rfl
set_option maxRecDepth 100000 in
theorem i_s53 (ol : pm_O) (orc : pm_Q) : pm_F ol orc 37 1 [(0, .ref 8)] [.ref 8] iH_16 = pm_F ol orc 37 4 [(0, .ref 8)] [] iH_16 := pm_F_nx rfl rfl rfl rfl
set_option maxRecDepth 100000 in
theorem i_s54 (ol : pm_O) (orc : pm_Q) : pm_F ol orc 37 4 [(0, .ref 8)] [] iH_16 = pm_F ol orc 37 5 [] [.ref 8] iH_16 := pm_F_nx rfl rfl rfl rfl
set_option maxRecDepth 100000 in
theorem i_s55 (ol : pm_O) (orc : pm_Q) : pm_F ol orc 37 5 [] [.ref 8] iH_16 = pm_F ol orc 37 6 [] [.int (4), .ref 8] iH_16 := pm_F_nx rfl rfl rfl rfl
set_option maxRecDepth 100000 in
theorem i_s56 (ol : pm_O) (orc : pm_Q) : pm_F ol orc 37 6 [] [.int (4), .ref 8] iH_16 = pm_F ol orc 37 8 [] [.ref 9, .ref 8] iH_17 := pm_F_nx rfl rfl rfl rfl
set_option maxRecDepth 100000 in
theorem i_s57 (ol : pm_O) (orc : pm_Q) : pm_F ol orc 37 8 [] [.ref 9, .ref 8] iH_17 = pm_F ol orc 37 11 [] [] iH_18 := pm_F_nx rfl rfl rfl rfl
set_option maxRecDepth 100000 in
theorem i_s58 (ol : pm_O) (orc : pm_Q) : pm_F ol orc 37 11 [] [] iH_18 = some (none, iH_18) := pm_F_rt rfl rfl rfl
set_option maxRecDepth 100000 in
theorem i_c2 (ol : pm_O) (orc : pm_Q) : pm_V ol orc 37 [.ref 8] iH_16 = some (none, iH_18) := (show pm_V ol orc 37 [.ref 8] iH_16 = pm_F ol orc 37 0 [(0, .ref 8)] [] iH_16 from (if_pos (r_le rfl)).trans (pm_F_live rfl)).trans ((i_s52 ol orc).trans ((i_s53 ol orc).trans ((i_s54 ol orc).trans ((i_s55 ol orc).trans ((i_s56 ol orc).trans ((i_s57 ol orc).trans (i_s58 ol orc)))))))
set_option maxRecDepth 100000 in
theorem i_s59 (ol : pm_O) (orc : pm_Q) : pm_F ol orc 86 73 [(0, .ref 1), (1, .int (0))] [.ref 8, .ref 8, .int (0), .ref 5] iH_16 = pm_F ol orc 86 76 [(0, .ref 1), (1, .int (0))] [.ref 8, .int (0), .ref 5] iH_18 := (r_vc rfl rfl rfl rfl rfl rfl (r_le rfl) (r_le rfl) rfl).trans ((if_pos rfl).trans (by rw [i_c2]; rfl))
set_option maxRecDepth 100000 in
theorem i_s60 (ol : pm_O) (orc : pm_Q) : pm_F ol orc 86 76 [(0, .ref 1), (1, .int (0))] [.ref 8, .int (0), .ref 5] iH_18 = pm_F ol orc 86 77 [(0, .ref 1), (1, .int (0))] [] iH_19 := pm_F_nx rfl rfl rfl rfl
set_option maxRecDepth 100000 in
theorem i_s61 (ol : pm_O) (orc : pm_Q) : pm_F ol orc 86 77 [(0, .ref 1), (1, .int (0))] [] iH_19 = pm_F ol orc 86 80 [(0, .ref 1), (1, .int (1))] [] iH_19 := pm_F_nx rfl rfl rfl rfl
set_option maxRecDepth 100000 in
theorem i_s62 (ol : pm_O) (orc : pm_Q) : pm_F ol orc 86 80 [(0, .ref 1), (1, .int (1))] [] iH_19 = pm_F ol orc 86 58 [(0, .ref 1), (1, .int (1))] [] iH_19 := pm_F_nx rfl rfl rfl rfl
set_option maxRecDepth 100000 in
theorem i_s63 (ol : pm_O) (orc : pm_Q) : pm_F ol orc 86 58 [(0, .ref 1), (1, .int (1))] [] iH_19 = pm_F ol orc 86 59 [(0, .ref 1), (1, .int (1))] [.int (1)] iH_19 := pm_F_nx rfl rfl rfl rfl
set_option maxRecDepth 100000 in
theorem i_s64 (ol : pm_O) (orc : pm_Q) : pm_F ol orc 86 59 [(0, .ref 1), (1, .int (1))] [.int (1)] iH_19 = pm_F ol orc 86 61 [(0, .ref 1), (1, .int (1))] [.int (6), .int (1)] iH_19 := pm_F_nx rfl rfl rfl rfl
set_option maxRecDepth 100000 in
theorem i_s65 (ol : pm_O) (orc : pm_Q) : pm_F ol orc 86 61 [(0, .ref 1), (1, .int (1))] [.int (6), .int (1)] iH_19 = pm_F ol orc 86 64 [(0, .ref 1), (1, .int (1))] [] iH_19 := pm_F_nx rfl rfl rfl rfl
set_option maxRecDepth 100000 in
theorem i_s66 (ol : pm_O) (orc : pm_Q) : pm_F ol orc 86 64 [(0, .ref 1), (1, .int (1))] [] iH_19 = pm_F ol orc 86 65 [(0, .ref 1), (1, .int (1))] [.ref 1] iH_19 := pm_F_nx rfl rfl rfl rfl
set_option maxRecDepth 100000 in
theorem i_s67 (ol : pm_O) (orc : pm_Q) : pm_F ol orc 86 65 [(0, .ref 1), (1, .int (1))] [.ref 1] iH_19 = pm_F ol orc 86 68 [(0, .ref 1), (1, .int (1))] [.ref 5] iH_19 := pm_F_nx rfl rfl rfl rfl
set_option maxRecDepth 100000 in
theorem i_s68 (ol : pm_O) (orc : pm_Q) : pm_F ol orc 86 68 [(0, .ref 1), (1, .int (1))] [.ref 5] iH_19 = pm_F ol orc 86 69 [(0, .ref 1), (1, .int (1))] [.int (1), .ref 5] iH_19 := pm_F_nx rfl rfl rfl rfl
set_option maxRecDepth 100000 in
theorem i_s69 (ol : pm_O) (orc : pm_Q) : pm_F ol orc 86 69 [(0, .ref 1), (1, .int (1))] [.int (1), .ref 5] iH_19 = pm_F ol orc 86 72 [(0, .ref 1), (1, .int (1))] [.ref 10, .int (1), .ref 5] iH_20 := pm_F_nx rfl rfl rfl rfl
set_option maxRecDepth 100000 in
theorem i_s70 (ol : pm_O) (orc : pm_Q) : pm_F ol orc 86 72 [(0, .ref 1), (1, .int (1))] [.ref 10, .int (1), .ref 5] iH_20 = pm_F ol orc 86 73 [(0, .ref 1), (1, .int (1))] [.ref 10, .ref 10, .int (1), .ref 5] iH_20 := pm_F_nx rfl rfl rfl rfl
set_option maxRecDepth 100000 in
theorem i_s71 (ol : pm_O) (orc : pm_Q) : pm_F ol orc 37 0 [(0, .ref 10)] [] iH_20 = pm_F ol orc 37 1 [(0, .ref 10)] [.ref 10] iH_20 := pm_F_nx rfl rfl rfl rfl
set_option maxRecDepth 100000 in
theorem i_s72 (ol : pm_O) (orc : pm_Q) : pm_F ol orc 37 1 [(0, .ref 10)] [.ref 10] iH_20 = pm_F ol orc 37 4 [(0, .ref 10)] [] iH_20 := pm_F_nx rfl rfl rfl rfl
set_option maxRecDepth 100000 in
theorem i_s73 (ol : pm_O) (orc : pm_Q) : pm_F ol orc 37 4 [(0, .ref 10)] [] iH_20 = pm_F ol orc 37 5 [] [.ref 10] iH_20 := pm_F_nx rfl rfl rfl rfl
set_option maxRecDepth 100000 in
theorem i_s74 (ol : pm_O) (orc : pm_Q) : pm_F ol orc 37 5 [] [.ref 10] iH_20 = pm_F ol orc 37 6 [] [.int (4), .ref 10] iH_20 := pm_F_nx rfl rfl rfl rfl
set_option maxRecDepth 100000 in
theorem i_s75 (ol : pm_O) (orc : pm_Q) : pm_F ol orc 37 6 [] [.int (4), .ref 10] iH_20 = pm_F ol orc 37 8 [] [.ref 11, .ref 10] iH_21 := pm_F_nx rfl rfl rfl rfl
set_option maxRecDepth 100000 in
theorem i_s76 (ol : pm_O) (orc : pm_Q) : pm_F ol orc 37 8 [] [.ref 11, .ref 10] iH_21 = pm_F ol orc 37 11 [] [] iH_22 := pm_F_nx rfl rfl rfl rfl
set_option maxRecDepth 100000 in
theorem i_s77 (ol : pm_O) (orc : pm_Q) : pm_F ol orc 37 11 [] [] iH_22 = some (none, iH_22) := pm_F_rt rfl rfl rfl
set_option maxRecDepth 100000 in
theorem i_c3 (ol : pm_O) (orc : pm_Q) : pm_V ol orc 37 [.ref 10] iH_20 = some (none, iH_22) := (show pm_V ol orc 37 [.ref 10] iH_20 = pm_F ol orc 37 0 [(0, .ref 10)] [] iH_20 from (if_pos (r_le rfl)).trans (pm_F_live rfl)).trans ((i_s71 ol orc).trans ((i_s72 ol orc).trans ((i_s73 ol orc).trans ((i_s74 ol orc).trans ((i_s75 ol orc).trans ((i_s76 ol orc).trans (i_s77 ol orc)))))))
set_option maxRecDepth 100000 in
theorem i_s78 (ol : pm_O) (orc : pm_Q) : pm_F ol orc 86 73 [(0, .ref 1), (1, .int (1))] [.ref 10, .ref 10, .int (1), .ref 5] iH_20 = pm_F ol orc 86 76 [(0, .ref 1), (1, .int (1))] [.ref 10, .int (1), .ref 5] iH_22 := (r_vc rfl rfl rfl rfl rfl rfl (r_le rfl) (r_le rfl) rfl).trans ((if_pos rfl).trans (by rw [i_c3]; rfl))
set_option maxRecDepth 100000 in
theorem i_s79 (ol : pm_O) (orc : pm_Q) : pm_F ol orc 86 76 [(0, .ref 1), (1, .int (1))] [.ref 10, .int (1), .ref 5] iH_22 = pm_F ol orc 86 77 [(0, .ref 1), (1, .int (1))] [] iH_23 := pm_F_nx rfl rfl rfl rfl
set_option maxRecDepth 100000 in
theorem i_s80 (ol : pm_O) (orc : pm_Q) : pm_F ol orc 86 77 [(0, .ref 1), (1, .int (1))] [] iH_23 = pm_F ol orc 86 80 [(0, .ref 1), (1, .int (2))] [] iH_23 := pm_F_nx rfl rfl rfl rfl
set_option maxRecDepth 100000 in
theorem i_s81 (ol : pm_O) (orc : pm_Q) : pm_F ol orc 86 80 [(0, .ref 1), (1, .int (2))] [] iH_23 = pm_F ol orc 86 58 [(0, .ref 1), (1, .int (2))] [] iH_23 := pm_F_nx rfl rfl rfl rfl
set_option maxRecDepth 100000 in
theorem i_s82 (ol : pm_O) (orc : pm_Q) : pm_F ol orc 86 58 [(0, .ref 1), (1, .int (2))] [] iH_23 = pm_F ol orc 86 59 [(0, .ref 1), (1, .int (2))] [.int (2)] iH_23 := pm_F_nx rfl rfl rfl rfl
set_option maxRecDepth 100000 in
theorem i_s83 (ol : pm_O) (orc : pm_Q) : pm_F ol orc 86 59 [(0, .ref 1), (1, .int (2))] [.int (2)] iH_23 = pm_F ol orc 86 61 [(0, .ref 1), (1, .int (2))] [.int (6), .int (2)] iH_23 := pm_F_nx rfl rfl rfl rfl
set_option maxRecDepth 100000 in
theorem i_s84 (ol : pm_O) (orc : pm_Q) : pm_F ol orc 86 61 [(0, .ref 1), (1, .int (2))] [.int (6), .int (2)] iH_23 = pm_F ol orc 86 64 [(0, .ref 1), (1, .int (2))] [] iH_23 := pm_F_nx rfl rfl rfl rfl
set_option maxRecDepth 100000 in
theorem i_s85 (ol : pm_O) (orc : pm_Q) : pm_F ol orc 86 64 [(0, .ref 1), (1, .int (2))] [] iH_23 = pm_F ol orc 86 65 [(0, .ref 1), (1, .int (2))] [.ref 1] iH_23 := pm_F_nx rfl rfl rfl rfl
set_option maxRecDepth 100000 in
theorem i_s86 (ol : pm_O) (orc : pm_Q) : pm_F ol orc 86 65 [(0, .ref 1), (1, .int (2))] [.ref 1] iH_23 = pm_F ol orc 86 68 [(0, .ref 1), (1, .int (2))] [.ref 5] iH_23 := pm_F_nx rfl rfl rfl rfl
set_option maxRecDepth 100000 in
theorem i_s87 (ol : pm_O) (orc : pm_Q) : pm_F ol orc 86 68 [(0, .ref 1), (1, .int (2))] [.ref 5] iH_23 = pm_F ol orc 86 69 [(0, .ref 1), (1, .int (2))] [.int (2), .ref 5] iH_23 := pm_F_nx rfl rfl rfl rfl
set_option maxRecDepth 100000 in
theorem i_s88 (ol : pm_O) (orc : pm_Q) : pm_F ol orc 86 69 [(0, .ref 1), (1, .int (2))] [.int (2), .ref 5] iH_23 = pm_F ol orc 86 72 [(0, .ref 1), (1, .int (2))] [.ref 12, .int (2), .ref 5] iH_24 := pm_F_nx rfl rfl rfl rfl
set_option maxRecDepth 100000 in
theorem i_s89 (ol : pm_O) (orc : pm_Q) : pm_F ol orc 86 72 [(0, .ref 1), (1, .int (2))] [.ref 12, .int (2), .ref 5] iH_24 = pm_F ol orc 86 73 [(0, .ref 1), (1, .int (2))] [.ref 12, .ref 12, .int (2), .ref 5] iH_24 := pm_F_nx rfl rfl rfl rfl
set_option maxRecDepth 100000 in
theorem i_s90 (ol : pm_O) (orc : pm_Q) : pm_F ol orc 37 0 [(0, .ref 12)] [] iH_24 = pm_F ol orc 37 1 [(0, .ref 12)] [.ref 12] iH_24 := pm_F_nx rfl rfl rfl rfl
set_option maxRecDepth 100000 in
theorem i_s91 (ol : pm_O) (orc : pm_Q) : pm_F ol orc 37 1 [(0, .ref 12)] [.ref 12] iH_24 = pm_F ol orc 37 4 [(0, .ref 12)] [] iH_24 := pm_F_nx rfl rfl rfl rfl
set_option maxRecDepth 100000 in
theorem i_s92 (ol : pm_O) (orc : pm_Q) : pm_F ol orc 37 4 [(0, .ref 12)] [] iH_24 = pm_F ol orc 37 5 [] [.ref 12] iH_24 := pm_F_nx rfl rfl rfl rfl
set_option maxRecDepth 100000 in
theorem i_s93 (ol : pm_O) (orc : pm_Q) : pm_F ol orc 37 5 [] [.ref 12] iH_24 = pm_F ol orc 37 6 [] [.int (4), .ref 12] iH_24 := pm_F_nx rfl rfl rfl rfl
set_option maxRecDepth 100000 in
theorem i_s94 (ol : pm_O) (orc : pm_Q) : pm_F ol orc 37 6 [] [.int (4), .ref 12] iH_24 = pm_F ol orc 37 8 [] [.ref 13, .ref 12] iH_25 := pm_F_nx rfl rfl rfl rfl
set_option maxRecDepth 100000 in
theorem i_s95 (ol : pm_O) (orc : pm_Q) : pm_F ol orc 37 8 [] [.ref 13, .ref 12] iH_25 = pm_F ol orc 37 11 [] [] iH_26 := pm_F_nx rfl rfl rfl rfl
set_option maxRecDepth 100000 in
theorem i_s96 (ol : pm_O) (orc : pm_Q) : pm_F ol orc 37 11 [] [] iH_26 = some (none, iH_26) := pm_F_rt rfl rfl rfl
set_option maxRecDepth 100000 in
theorem i_c4 (ol : pm_O) (orc : pm_Q) : pm_V ol orc 37 [.ref 12] iH_24 = some (none, iH_26) := (show pm_V ol orc 37 [.ref 12] iH_24 = pm_F ol orc 37 0 [(0, .ref 12)] [] iH_24 from (if_pos (r_le rfl)).trans (pm_F_live rfl)).trans ((i_s90 ol orc).trans ((i_s91 ol orc).trans ((i_s92 ol orc).trans ((i_s93 ol orc).trans ((i_s94 ol orc).trans ((i_s95 ol orc).trans (i_s96 ol orc)))))))
set_option maxRecDepth 100000 in
theorem i_s97 (ol : pm_O) (orc : pm_Q) : pm_F ol orc 86 73 [(0, .ref 1), (1, .int (2))] [.ref 12, .ref 12, .int (2), .ref 5] iH_24 = pm_F ol orc 86 76 [(0, .ref 1), (1, .int (2))] [.ref 12, .int (2), .ref 5] iH_26 := (r_vc rfl rfl rfl rfl rfl rfl (r_le rfl) (r_le rfl) rfl).trans ((if_pos rfl).trans (by rw [i_c4]; rfl))
set_option maxRecDepth 100000 in
theorem i_s98 (ol : pm_O) (orc : pm_Q) : pm_F ol orc 86 76 [(0, .ref 1), (1, .int (2))] [.ref 12, .int (2), .ref 5] iH_26 = pm_F ol orc 86 77 [(0, .ref 1), (1, .int (2))] [] iH_27 := pm_F_nx rfl rfl rfl rfl
set_option maxRecDepth 100000 in
theorem i_s99 (ol : pm_O) (orc : pm_Q) : pm_F ol orc 86 77 [(0, .ref 1), (1, .int (2))] [] iH_27 = pm_F ol orc 86 80 [(0, .ref 1), (1, .int (3))] [] iH_27 := pm_F_nx rfl rfl rfl rfl
set_option maxRecDepth 100000 in
theorem i_s100 (ol : pm_O) (orc : pm_Q) : pm_F ol orc 86 80 [(0, .ref 1), (1, .int (3))] [] iH_27 = pm_F ol orc 86 58 [(0, .ref 1), (1, .int (3))] [] iH_27 := pm_F_nx rfl rfl rfl rfl
set_option maxRecDepth 100000 in
theorem i_s101 (ol : pm_O) (orc : pm_Q) : pm_F ol orc 86 58 [(0, .ref 1), (1, .int (3))] [] iH_27 = pm_F ol orc 86 59 [(0, .ref 1), (1, .int (3))] [.int (3)] iH_27 := pm_F_nx rfl rfl rfl rfl
set_option maxRecDepth 100000 in
theorem i_s102 (ol : pm_O) (orc : pm_Q) : pm_F ol orc 86 59 [(0, .ref 1), (1, .int (3))] [.int (3)] iH_27 = pm_F ol orc 86 61 [(0, .ref 1), (1, .int (3))] [.int (6), .int (3)] iH_27 := pm_F_nx rfl rfl rfl rfl
set_option maxRecDepth 100000 in
theorem i_s103 (ol : pm_O) (orc : pm_Q) : pm_F ol orc 86 61 [(0, .ref 1), (1, .int (3))] [.int (6), .int (3)] iH_27 = pm_F ol orc 86 64 [(0, .ref 1), (1, .int (3))] [] iH_27 := pm_F_nx rfl rfl rfl rfl
set_option maxRecDepth 100000 in
theorem i_s104 (ol : pm_O) (orc : pm_Q) : pm_F ol orc 86 64 [(0, .ref 1), (1, .int (3))] [] iH_27 = pm_F ol orc 86 65 [(0, .ref 1), (1, .int (3))] [.ref 1] iH_27 := pm_F_nx rfl rfl rfl rfl
set_option maxRecDepth 100000 in
theorem i_s105 (ol : pm_O) (orc : pm_Q) : pm_F ol orc 86 65 [(0, .ref 1), (1, .int (3))] [.ref 1] iH_27 = pm_F ol orc 86 68 [(0, .ref 1), (1, .int (3))] [.ref 5] iH_27 := pm_F_nx rfl rfl rfl rfl
set_option maxRecDepth 100000 in
theorem i_s106 (ol : pm_O) (orc : pm_Q) : pm_F ol orc 86 68 [(0, .ref 1), (1, .int (3))] [.ref 5] iH_27 = pm_F ol orc 86 69 [(0, .ref 1), (1, .int (3))] [.int (3), .ref 5] iH_27 := pm_F_nx rfl rfl rfl rfl
set_option maxRecDepth 100000 in
theorem i_s107 (ol : pm_O) (orc : pm_Q) : pm_F ol orc 86 69 [(0, .ref 1), (1, .int (3))] [.int (3), .ref 5] iH_27 = pm_F ol orc 86 72 [(0, .ref 1), (1, .int (3))] [.ref 14, .int (3), .ref 5] iH_28 := pm_F_nx rfl rfl rfl rfl
set_option maxRecDepth 100000 in
theorem i_s108 (ol : pm_O) (orc : pm_Q) : pm_F ol orc 86 72 [(0, .ref 1), (1, .int (3))] [.ref 14, .int (3), .ref 5] iH_28 = pm_F ol orc 86 73 [(0, .ref 1), (1, .int (3))] [.ref 14, .ref 14, .int (3), .ref 5] iH_28 := pm_F_nx rfl rfl rfl rfl
set_option maxRecDepth 100000 in
theorem i_s109 (ol : pm_O) (orc : pm_Q) : pm_F ol orc 37 0 [(0, .ref 14)] [] iH_28 = pm_F ol orc 37 1 [(0, .ref 14)] [.ref 14] iH_28 := pm_F_nx rfl rfl rfl rfl
set_option maxRecDepth 100000 in
theorem i_s110 (ol : pm_O) (orc : pm_Q) : pm_F ol orc 37 1 [(0, .ref 14)] [.ref 14] iH_28 = pm_F ol orc 37 4 [(0, .ref 14)] [] iH_28 := pm_F_nx rfl rfl rfl rfl
set_option maxRecDepth 100000 in
theorem i_s111 (ol : pm_O) (orc : pm_Q) : pm_F ol orc 37 4 [(0, .ref 14)] [] iH_28 = pm_F ol orc 37 5 [] [.ref 14] iH_28 := pm_F_nx rfl rfl rfl rfl
set_option maxRecDepth 100000 in
theorem i_s112 (ol : pm_O) (orc : pm_Q) : pm_F ol orc 37 5 [] [.ref 14] iH_28 = pm_F ol orc 37 6 [] [.int (4), .ref 14] iH_28 := pm_F_nx rfl rfl rfl rfl
set_option maxRecDepth 100000 in
theorem i_s113 (ol : pm_O) (orc : pm_Q) : pm_F ol orc 37 6 [] [.int (4), .ref 14] iH_28 = pm_F ol orc 37 8 [] [.ref 15, .ref 14] iH_29 := pm_F_nx rfl rfl rfl rfl
set_option maxRecDepth 100000 in
theorem i_s114 (ol : pm_O) (orc : pm_Q) : pm_F ol orc 37 8 [] [.ref 15, .ref 14] iH_29 = pm_F ol orc 37 11 [] [] iH_30 := pm_F_nx rfl rfl rfl rfl
set_option maxRecDepth 100000 in
theorem i_s115 (ol : pm_O) (orc : pm_Q) : pm_F ol orc 37 11 [] [] iH_30 = some (none, iH_30) := pm_F_rt rfl rfl rfl
set_option maxRecDepth 100000 in
theorem i_c5 (ol : pm_O) (orc : pm_Q) : pm_V ol orc 37 [.ref 14] iH_28 = some (none, iH_30) := (show pm_V ol orc 37 [.ref 14] iH_28 = pm_F ol orc 37 0 [(0, .ref 14)] [] iH_28 from (if_pos (r_le rfl)).trans (pm_F_live rfl)).trans ((i_s109 ol orc).trans ((i_s110 ol orc).trans ((i_s111 ol orc).trans ((i_s112 ol orc).trans ((i_s113 ol orc).trans ((i_s114 ol orc).trans (i_s115 ol orc)))))))
set_option maxRecDepth 100000 in
theorem i_s116 (ol : pm_O) (orc : pm_Q) : pm_F ol orc 86 73 [(0, .ref 1), (1, .int (3))] [.ref 14, .ref 14, .int (3), .ref 5] iH_28 = pm_F ol orc 86 76 [(0, .ref 1), (1, .int (3))] [.ref 14, .int (3), .ref 5] iH_30 := (r_vc rfl rfl rfl rfl rfl rfl (r_le rfl) (r_le rfl) rfl).trans ((if_pos rfl).trans (by rw [i_c5]; rfl))
set_option maxRecDepth 100000 in
theorem i_s117 (ol : pm_O) (orc : pm_Q) : pm_F ol orc 86 76 [(0, .ref 1), (1, .int (3))] [.ref 14, .int (3), .ref 5] iH_30 = pm_F ol orc 86 77 [(0, .ref 1), (1, .int (3))] [] iH_31 := pm_F_nx rfl rfl rfl rfl
set_option maxRecDepth 100000 in
theorem i_s118 (ol : pm_O) (orc : pm_Q) : pm_F ol orc 86 77 [(0, .ref 1), (1, .int (3))] [] iH_31 = pm_F ol orc 86 80 [(0, .ref 1), (1, .int (4))] [] iH_31 := pm_F_nx rfl rfl rfl rfl
set_option maxRecDepth 100000 in
theorem i_s119 (ol : pm_O) (orc : pm_Q) : pm_F ol orc 86 80 [(0, .ref 1), (1, .int (4))] [] iH_31 = pm_F ol orc 86 58 [(0, .ref 1), (1, .int (4))] [] iH_31 := pm_F_nx rfl rfl rfl rfl
set_option maxRecDepth 100000 in
theorem i_s120 (ol : pm_O) (orc : pm_Q) : pm_F ol orc 86 58 [(0, .ref 1), (1, .int (4))] [] iH_31 = pm_F ol orc 86 59 [(0, .ref 1), (1, .int (4))] [.int (4)] iH_31 := pm_F_nx rfl rfl rfl rfl
set_option maxRecDepth 100000 in
theorem i_s121 (ol : pm_O) (orc : pm_Q) : pm_F ol orc 86 59 [(0, .ref 1), (1, .int (4))] [.int (4)] iH_31 = pm_F ol orc 86 61 [(0, .ref 1), (1, .int (4))] [.int (6), .int (4)] iH_31 := pm_F_nx rfl rfl rfl rfl
set_option maxRecDepth 100000 in
theorem i_s122 (ol : pm_O) (orc : pm_Q) : pm_F ol orc 86 61 [(0, .ref 1), (1, .int (4))] [.int (6), .int (4)] iH_31 = pm_F ol orc 86 64 [(0, .ref 1), (1, .int (4))] [] iH_31 := pm_F_nx rfl rfl rfl rfl
set_option maxRecDepth 100000 in
theorem i_s123 (ol : pm_O) (orc : pm_Q) : pm_F ol orc 86 64 [(0, .ref 1), (1, .int (4))] [] iH_31 = pm_F ol orc 86 65 [(0, .ref 1), (1, .int (4))] [.ref 1] iH_31 := pm_F_nx rfl rfl rfl rfl
set_option maxRecDepth 100000 in
theorem i_s124 (ol : pm_O) (orc : pm_Q) : pm_F ol orc 86 65 [(0, .ref 1), (1, .int (4))] [.ref 1] iH_31 = pm_F ol orc 86 68 [(0, .ref 1), (1, .int (4))] [.ref 5] iH_31 := pm_F_nx rfl rfl rfl rfl
set_option maxRecDepth 100000 in
theorem i_s125 (ol : pm_O) (orc : pm_Q) : pm_F ol orc 86 68 [(0, .ref 1), (1, .int (4))] [.ref 5] iH_31 = pm_F ol orc 86 69 [(0, .ref 1), (1, .int (4))] [.int (4), .ref 5] iH_31 := pm_F_nx rfl rfl rfl rfl
set_option maxRecDepth 100000 in
theorem i_s126 (ol : pm_O) (orc : pm_Q) : pm_F ol orc 86 69 [(0, .ref 1), (1, .int (4))] [.int (4), .ref 5] iH_31 = pm_F ol orc 86 72 [(0, .ref 1), (1, .int (4))] [.ref 16, .int (4), .ref 5] iH_32 := pm_F_nx rfl rfl rfl rfl
set_option maxRecDepth 100000 in
theorem i_s127 (ol : pm_O) (orc : pm_Q) : pm_F ol orc 86 72 [(0, .ref 1), (1, .int (4))] [.ref 16, .int (4), .ref 5] iH_32 = pm_F ol orc 86 73 [(0, .ref 1), (1, .int (4))] [.ref 16, .ref 16, .int (4), .ref 5] iH_32 := pm_F_nx rfl rfl rfl rfl
set_option maxRecDepth 100000 in
theorem i_s128 (ol : pm_O) (orc : pm_Q) : pm_F ol orc 37 0 [(0, .ref 16)] [] iH_32 = pm_F ol orc 37 1 [(0, .ref 16)] [.ref 16] iH_32 := pm_F_nx rfl rfl rfl rfl
set_option maxRecDepth 100000 in
theorem i_s129 (ol : pm_O) (orc : pm_Q) : pm_F ol orc 37 1 [(0, .ref 16)] [.ref 16] iH_32 = pm_F ol orc 37 4 [(0, .ref 16)] [] iH_32 := pm_F_nx rfl rfl rfl rfl
set_option maxRecDepth 100000 in
theorem i_s130 (ol : pm_O) (orc : pm_Q) : pm_F ol orc 37 4 [(0, .ref 16)] [] iH_32 = pm_F ol orc 37 5 [] [.ref 16] iH_32 := pm_F_nx rfl rfl rfl rfl
set_option maxRecDepth 100000 in
theorem i_s131 (ol : pm_O) (orc : pm_Q) : pm_F ol orc 37 5 [] [.ref 16] iH_32 = pm_F ol orc 37 6 [] [.int (4), .ref 16] iH_32 := pm_F_nx rfl rfl rfl rfl
set_option maxRecDepth 100000 in
theorem i_s132 (ol : pm_O) (orc : pm_Q) : pm_F ol orc 37 6 [] [.int (4), .ref 16] iH_32 = pm_F ol orc 37 8 [] [.ref 17, .ref 16] iH_33 := pm_F_nx rfl rfl rfl rfl
set_option maxRecDepth 100000 in
theorem i_s133 (ol : pm_O) (orc : pm_Q) : pm_F ol orc 37 8 [] [.ref 17, .ref 16] iH_33 = pm_F ol orc 37 11 [] [] iH_34 := pm_F_nx rfl rfl rfl rfl
set_option maxRecDepth 100000 in
theorem i_s134 (ol : pm_O) (orc : pm_Q) : pm_F ol orc 37 11 [] [] iH_34 = some (none, iH_34) := pm_F_rt rfl rfl rfl
set_option maxRecDepth 100000 in
theorem i_c6 (ol : pm_O) (orc : pm_Q) : pm_V ol orc 37 [.ref 16] iH_32 = some (none, iH_34) := (show pm_V ol orc 37 [.ref 16] iH_32 = pm_F ol orc 37 0 [(0, .ref 16)] [] iH_32 from (if_pos (r_le rfl)).trans (pm_F_live rfl)).trans ((i_s128 ol orc).trans ((i_s129 ol orc).trans ((i_s130 ol orc).trans ((i_s131 ol orc).trans ((i_s132 ol orc).trans ((i_s133 ol orc).trans (i_s134 ol orc)))))))
set_option maxRecDepth 100000 in
theorem i_s135 (ol : pm_O) (orc : pm_Q) : pm_F ol orc 86 73 [(0, .ref 1), (1, .int (4))] [.ref 16, .ref 16, .int (4), .ref 5] iH_32 = pm_F ol orc 86 76 [(0, .ref 1), (1, .int (4))] [.ref 16, .int (4), .ref 5] iH_34 := (r_vc rfl rfl rfl rfl rfl rfl (r_le rfl) (r_le rfl) rfl).trans ((if_pos rfl).trans (by rw [i_c6]; rfl))
set_option maxRecDepth 100000 in
theorem i_s136 (ol : pm_O) (orc : pm_Q) : pm_F ol orc 86 76 [(0, .ref 1), (1, .int (4))] [.ref 16, .int (4), .ref 5] iH_34 = pm_F ol orc 86 77 [(0, .ref 1), (1, .int (4))] [] iH_35 := pm_F_nx rfl rfl rfl rfl
set_option maxRecDepth 100000 in
theorem i_s137 (ol : pm_O) (orc : pm_Q) : pm_F ol orc 86 77 [(0, .ref 1), (1, .int (4))] [] iH_35 = pm_F ol orc 86 80 [(0, .ref 1), (1, .int (5))] [] iH_35 := pm_F_nx rfl rfl rfl rfl
set_option maxRecDepth 100000 in
theorem i_s138 (ol : pm_O) (orc : pm_Q) : pm_F ol orc 86 80 [(0, .ref 1), (1, .int (5))] [] iH_35 = pm_F ol orc 86 58 [(0, .ref 1), (1, .int (5))] [] iH_35 := pm_F_nx rfl rfl rfl rfl
set_option maxRecDepth 100000 in
theorem i_s139 (ol : pm_O) (orc : pm_Q) : pm_F ol orc 86 58 [(0, .ref 1), (1, .int (5))] [] iH_35 = pm_F ol orc 86 59 [(0, .ref 1), (1, .int (5))] [.int (5)] iH_35 := pm_F_nx rfl rfl rfl rfl
set_option maxRecDepth 100000 in
theorem i_s140 (ol : pm_O) (orc : pm_Q) : pm_F ol orc 86 59 [(0, .ref 1), (1, .int (5))] [.int (5)] iH_35 = pm_F ol orc 86 61 [(0, .ref 1), (1, .int (5))] [.int (6), .int (5)] iH_35 := pm_F_nx rfl rfl rfl rfl
set_option maxRecDepth 100000 in
theorem i_s141 (ol : pm_O) (orc : pm_Q) : pm_F ol orc 86 61 [(0, .ref 1), (1, .int (5))] [.int (6), .int (5)] iH_35 = pm_F ol orc 86 64 [(0, .ref 1), (1, .int (5))] [] iH_35 := pm_F_nx rfl rfl rfl rfl
set_option maxRecDepth 100000 in
theorem i_s142 (ol : pm_O) (orc : pm_Q) : pm_F ol orc 86 64 [(0, .ref 1), (1, .int (5))] [] iH_35 = pm_F ol orc 86 65 [(0, .ref 1), (1, .int (5))] [.ref 1] iH_35 := pm_F_nx rfl rfl rfl rfl
set_option maxRecDepth 100000 in
theorem i_s143 (ol : pm_O) (orc : pm_Q) : pm_F ol orc 86 65 [(0, .ref 1), (1, .int (5))] [.ref 1] iH_35 = pm_F ol orc 86 68 [(0, .ref 1), (1, .int (5))] [.ref 5] iH_35 := pm_F_nx rfl rfl rfl rfl
set_option maxRecDepth 100000 in
theorem i_s144 (ol : pm_O) (orc : pm_Q) : pm_F ol orc 86 68 [(0, .ref 1), (1, .int (5))] [.ref 5] iH_35 = pm_F ol orc 86 69 [(0, .ref 1), (1, .int (5))] [.int (5), .ref 5] iH_35 := pm_F_nx rfl rfl rfl rfl
set_option maxRecDepth 100000 in
theorem i_s145 (ol : pm_O) (orc : pm_Q) : pm_F ol orc 86 69 [(0, .ref 1), (1, .int (5))] [.int (5), .ref 5] iH_35 = pm_F ol orc 86 72 [(0, .ref 1), (1, .int (5))] [.ref 18, .int (5), .ref 5] iH_36 := pm_F_nx rfl rfl rfl rfl
set_option maxRecDepth 100000 in
theorem i_s146 (ol : pm_O) (orc : pm_Q) : pm_F ol orc 86 72 [(0, .ref 1), (1, .int (5))] [.ref 18, .int (5), .ref 5] iH_36 = pm_F ol orc 86 73 [(0, .ref 1), (1, .int (5))] [.ref 18, .ref 18, .int (5), .ref 5] iH_36 := pm_F_nx rfl rfl rfl rfl
set_option maxRecDepth 100000 in
theorem i_s147 (ol : pm_O) (orc : pm_Q) : pm_F ol orc 37 0 [(0, .ref 18)] [] iH_36 = pm_F ol orc 37 1 [(0, .ref 18)] [.ref 18] iH_36 := pm_F_nx rfl rfl rfl rfl
set_option maxRecDepth 100000 in
theorem i_s148 (ol : pm_O) (orc : pm_Q) : pm_F ol orc 37 1 [(0, .ref 18)] [.ref 18] iH_36 = pm_F ol orc 37 4 [(0, .ref 18)] [] iH_36 := pm_F_nx rfl rfl rfl rfl
set_option maxRecDepth 100000 in
theorem i_s149 (ol : pm_O) (orc : pm_Q) : pm_F ol orc 37 4 [(0, .ref 18)] [] iH_36 = pm_F ol orc 37 5 [] [.ref 18] iH_36 := pm_F_nx rfl rfl rfl rfl
set_option maxRecDepth 100000 in
theorem i_s150 (ol : pm_O) (orc : pm_Q) : pm_F ol orc 37 5 [] [.ref 18] iH_36 = pm_F ol orc 37 6 [] [.int (4), .ref 18] iH_36 := pm_F_nx rfl rfl rfl rfl
set_option maxRecDepth 100000 in
theorem i_s151 (ol : pm_O) (orc : pm_Q) : pm_F ol orc 37 6 [] [.int (4), .ref 18] iH_36 = pm_F ol orc 37 8 [] [.ref 19, .ref 18] iH_37 := pm_F_nx rfl rfl rfl rfl
set_option maxRecDepth 100000 in
theorem i_s152 (ol : pm_O) (orc : pm_Q) : pm_F ol orc 37 8 [] [.ref 19, .ref 18] iH_37 = pm_F ol orc 37 11 [] [] iH_38 := pm_F_nx rfl rfl rfl rfl
set_option maxRecDepth 100000 in
theorem i_s153 (ol : pm_O) (orc : pm_Q) : pm_F ol orc 37 11 [] [] iH_38 = some (none, iH_38) := pm_F_rt rfl rfl rfl
set_option maxRecDepth 100000 in
theorem i_c7 (ol : pm_O) (orc : pm_Q) : pm_V ol orc 37 [.ref 18] iH_36 = some (none, iH_38) := (show pm_V ol orc 37 [.ref 18] iH_36 = pm_F ol orc 37 0 [(0, .ref 18)] [] iH_36 from (if_pos (r_le rfl)).trans (pm_F_live rfl)).trans ((i_s147 ol orc).trans ((i_s148 ol orc).trans ((i_s149 ol orc).trans ((i_s150 ol orc).trans ((i_s151 ol orc).trans ((i_s152 ol orc).trans (i_s153 ol orc)))))))
set_option maxRecDepth 100000 in
theorem i_s154 (ol : pm_O) (orc : pm_Q) : pm_F ol orc 86 73 [(0, .ref 1), (1, .int (5))] [.ref 18, .ref 18, .int (5), .ref 5] iH_36 = pm_F ol orc 86 76 [(0, .ref 1), (1, .int (5))] [.ref 18, .int (5), .ref 5] iH_38 := (r_vc rfl rfl rfl rfl rfl rfl (r_le rfl) (r_le rfl) rfl).trans ((if_pos rfl).trans (by rw [i_c7]; rfl))
set_option maxRecDepth 100000 in
theorem i_s155 (ol : pm_O) (orc : pm_Q) : pm_F ol orc 86 76 [(0, .ref 1), (1, .int (5))] [.ref 18, .int (5), .ref 5] iH_38 = pm_F ol orc 86 77 [(0, .ref 1), (1, .int (5))] [] iH_39 := pm_F_nx rfl rfl rfl rfl
set_option maxRecDepth 100000 in
theorem i_s156 (ol : pm_O) (orc : pm_Q) : pm_F ol orc 86 77 [(0, .ref 1), (1, .int (5))] [] iH_39 = pm_F ol orc 86 80 [(0, .ref 1), (1, .int (6))] [] iH_39 := pm_F_nx rfl rfl rfl rfl
set_option maxRecDepth 100000 in
theorem i_s157 (ol : pm_O) (orc : pm_Q) : pm_F ol orc 86 80 [(0, .ref 1), (1, .int (6))] [] iH_39 = pm_F ol orc 86 58 [(0, .ref 1), (1, .int (6))] [] iH_39 := pm_F_nx rfl rfl rfl rfl
set_option maxRecDepth 100000 in
theorem i_s158 (ol : pm_O) (orc : pm_Q) : pm_F ol orc 86 58 [(0, .ref 1), (1, .int (6))] [] iH_39 = pm_F ol orc 86 59 [(0, .ref 1), (1, .int (6))] [.int (6)] iH_39 := pm_F_nx rfl rfl rfl rfl
set_option maxRecDepth 100000 in
theorem i_s159 (ol : pm_O) (orc : pm_Q) : pm_F ol orc 86 59 [(0, .ref 1), (1, .int (6))] [.int (6)] iH_39 = pm_F ol orc 86 61 [(0, .ref 1), (1, .int (6))] [.int (6), .int (6)] iH_39 := pm_F_nx rfl rfl rfl rfl
set_option maxRecDepth 100000 in
theorem i_s160 (ol : pm_O) (orc : pm_Q) : pm_F ol orc 86 61 [(0, .ref 1), (1, .int (6))] [.int (6), .int (6)] iH_39 = pm_F ol orc 86 83 [] [] iH_39 := pm_F_nx rfl rfl rfl rfl
set_option maxRecDepth 100000 in
theorem i_s161 (ol : pm_O) (orc : pm_Q) : pm_F ol orc 86 83 [] [] iH_39 = some (none, iH_39) := pm_F_rt rfl rfl rfl
set_option maxRecDepth 100000 in
theorem i_c8 (ol : pm_O) (orc : pm_Q) : pm_V ol orc 86 [.ref 1] iH_2 = some (none, iH_39) := (show pm_V ol orc 86 [.ref 1] iH_2 = pm_F ol orc 86 0 [(0, .ref 1)] [] iH_2 from (if_pos (r_le rfl)).trans (pm_F_live rfl)).trans ((i_s8 ol orc).trans ((i_s9 ol orc).trans ((i_s10 ol orc).trans ((i_s11 ol orc).trans ((i_s12 ol orc).trans ((i_s13 ol orc).trans ((i_s14 ol orc).trans ((i_s15 ol orc).trans ((i_s16 ol orc).trans ((i_s17 ol orc).trans ((i_s18 ol orc).trans ((i_s19 ol orc).trans ((i_s20 ol orc).trans ((i_s21 ol orc).trans ((i_s22 ol orc).trans ((i_s23 ol orc).trans ((i_s24 ol orc).trans ((i_s25 ol orc).trans ((i_s26 ol orc).trans ((i_s27 ol orc).trans ((i_s28 ol orc).trans ((i_s36 ol orc).trans ((i_s37 ol orc).trans ((i_s38 ol orc).trans ((i_s39 ol orc).trans ((i_s40 ol orc).trans ((i_s41 ol orc).trans ((i_s42 ol orc).trans ((i_s43 ol orc).trans ((i_s44 ol orc).trans ((i_s45 ol orc).trans ((i_s46 ol orc).trans ((i_s47 ol orc).trans ((i_s48 ol orc).trans ((i_s49 ol orc).trans ((i_s50 ol orc).trans ((i_s51 ol orc).trans ((i_s59 ol orc).trans ((i_s60 ol orc).trans ((i_s61 ol orc).trans ((i_s62 ol orc).trans ((i_s63 ol orc).trans ((i_s64 ol orc).trans ((i_s65 ol orc).trans ((i_s66 ol orc).trans ((i_s67 ol orc).trans ((i_s68 ol orc).trans ((i_s69 ol orc).trans ((i_s70 ol orc).trans ((i_s78 ol orc).trans ((i_s79 ol orc).trans ((i_s80 ol orc).trans ((i_s81 ol orc).trans ((i_s82 ol orc).trans ((i_s83 ol orc).trans ((i_s84 ol orc).trans ((i_s85 ol orc).trans ((i_s86 ol orc).trans ((i_s87 ol orc).trans ((i_s88 ol orc).trans ((i_s89 ol orc).trans ((i_s97 ol orc).trans ((i_s98 ol orc).trans ((i_s99 ol orc).trans ((i_s100 ol orc).trans ((i_s101 ol orc).trans ((i_s102 ol orc).trans ((i_s103 ol orc).trans ((i_s104 ol orc).trans ((i_s105 ol orc).trans ((i_s106 ol orc).trans ((i_s107 ol orc).trans ((i_s108 ol orc).trans ((i_s116 ol orc).trans ((i_s117 ol orc).trans ((i_s118 ol orc).trans ((i_s119 ol orc).trans ((i_s120 ol orc).trans ((i_s121 ol orc).trans ((i_s122 ol orc).trans ((i_s123 ol orc).trans ((i_s124 ol orc).trans ((i_s125 ol orc).trans ((i_s126 ol orc).trans ((i_s127 ol orc).trans ((i_s135 ol orc).trans ((i_s136 ol orc).trans ((i_s137 ol orc).trans ((i_s138 ol orc).trans ((i_s139 ol orc).trans ((i_s140 ol orc).trans ((i_s141 ol orc).trans ((i_s142 ol orc).trans ((i_s143 ol orc).trans ((i_s144 ol orc).trans ((i_s145 ol orc).trans ((i_s146 ol orc).trans ((i_s154 ol orc).trans ((i_s155 ol orc).trans ((i_s156 ol orc).trans ((i_s157 ol orc).trans ((i_s158 ol orc).trans ((i_s159 ol orc).trans ((i_s160 ol orc).trans (i_s161 ol orc)))))))))))))))))))))))))))))))))))))))))))))))))))))))))))))))))))))))))))))))))))))))))))))))))))))))))
set_option maxRecDepth 100000 in
theorem i_s162 (ol : pm_O) (orc : pm_Q) : pm_F ol orc 98 9 [(0, .ref 0)] [.ref 1, .ref 1, .ref 0] iH_2 = pm_F ol orc 98 12 [(0, .ref 0)] [.ref 1, .ref 0] iH_39 := (r_vc rfl rfl rfl rfl rfl rfl (r_le rfl) (r_le rfl) rfl).trans ((if_pos rfl).trans (by rw [i_c8]; rfl))
set_option maxRecDepth 100000 in
theorem i_s163 (ol : pm_O) (orc : pm_Q) : pm_F ol orc 98 12 [(0, .ref 0)] [.ref 1, .ref 0] iH_39 = pm_F ol orc 98 15 [(0, .ref 0)] [] iH_40 := pm_F_nx rfl rfl rfl rfl
set_option maxRecDepth 100000 in
theorem i_s164 (ol : pm_O) (orc : pm_Q) : pm_F ol orc 98 15 [(0, .ref 0)] [] iH_40 = pm_F ol orc 98 16 [(0, .ref 0)] [.ref 0] iH_40 := pm_F_nx rfl rfl rfl rfl
set_option maxRecDepth 100000 in
theorem i_s165 (ol : pm_O) (orc : pm_Q) : pm_F ol orc 98 16 [(0, .ref 0)] [.ref 0] iH_40 = pm_F ol orc 98 19 [(0, .ref 0)] [.ref 20, .ref 0] iH_41 := pm_F_nx rfl rfl rfl rfl
set_option maxRecDepth 100000 in
theorem i_s166 (ol : pm_O) (orc : pm_Q) : pm_F ol orc 98 19 [(0, .ref 0)] [.ref 20, .ref 0] iH_41 = pm_F ol orc 98 20 [(0, .ref 0)] [.ref 20, .ref 20, .ref 0] iH_41 := pm_F_nx rfl rfl rfl rfl
set_option maxRecDepth 100000 in
theorem i_s167 (ol : pm_O) (orc : pm_Q) : pm_F ol orc 13 0 [(0, .ref 20)] [] iH_41 = pm_F ol orc 13 1 [(0, .ref 20)] [.ref 20] iH_41 := pm_F_nx rfl rfl rfl rfl
set_option maxRecDepth 100000 in
theorem i_s168 (ol : pm_O) (orc : pm_Q) : pm_F ol orc 13 1 [(0, .ref 20)] [.ref 20] iH_41 = pm_F ol orc 13 4 [(0, .ref 20)] [] iH_41 := pm_F_nx rfl rfl rfl rfl
set_option maxRecDepth 100000 in
theorem i_s169 (ol : pm_O) (orc : pm_Q) : pm_F ol orc 13 4 [(0, .ref 20)] [] iH_41 = pm_F ol orc 13 5 [(0, .ref 20)] [.ref 20] iH_41 := pm_F_nx rfl rfl rfl rfl
set_option maxRecDepth 100000 in
theorem i_s170 (ol : pm_O) (orc : pm_Q) : pm_F ol orc 13 5 [(0, .ref 20)] [.ref 20] iH_41 = pm_F ol orc 13 8 [(0, .ref 20)] [.ref 21, .ref 20] iH_42 := pm_F_nx rfl rfl rfl rfl
set_option maxRecDepth 100000 in
theorem i_s171 (ol : pm_O) (orc : pm_Q) : pm_F ol orc 13 8 [(0, .ref 20)] [.ref 21, .ref 20] iH_42 = pm_F ol orc 13 9 [(0, .ref 20)] [.ref 21, .ref 21, .ref 20] iH_42 := pm_F_nx rfl rfl rfl rfl
set_option maxRecDepth 100000 in
theorem i_s172 (ol : pm_O) (orc : pm_Q) : pm_F ol orc 13 9 [(0, .ref 20)] [.ref 21, .ref 21, .ref 20] iH_42 = pm_F ol orc 13 11 [(0, .ref 20)] [.int (48), .ref 21, .ref 21, .ref 20] iH_42 := pm_F_nx rfl rfl rfl rfl
set_option maxRecDepth 100000 in
theorem i_s173 (ol : pm_O) (orc : pm_Q) : pm_F ol orc 0 0 [(0, .ref 21), (1, .int (48))] [] iH_42 = pm_F ol orc 0 1 [(0, .ref 21), (1, .int (48))] [.ref 21] iH_42 := pm_F_nx rfl rfl rfl rfl
set_option maxRecDepth 100000 in
theorem i_s174 (ol : pm_O) (orc : pm_Q) : pm_F ol orc 0 1 [(0, .ref 21), (1, .int (48))] [.ref 21] iH_42 = pm_F ol orc 0 4 [(0, .ref 21), (1, .int (48))] [] iH_42 := pm_F_nx rfl rfl rfl rfl
set_option maxRecDepth 100000 in
theorem i_s175 (ol : pm_O) (orc : pm_Q) : pm_F ol orc 0 4 [(0, .ref 21), (1, .int (48))] [] iH_42 = pm_F ol orc 0 5 [(1, .int (48))] [.ref 21] iH_42 := pm_F_nx rfl rfl rfl rfl
set_option maxRecDepth 100000 in
theorem i_s176 (ol : pm_O) (orc : pm_Q) : pm_F ol orc 0 5 [(1, .int (48))] [.ref 21] iH_42 = pm_F ol orc 0 6 [] [.int (48), .ref 21] iH_42 := pm_F_nx rfl rfl rfl rfl
set_option maxRecDepth 100000 in
theorem i_s177 (ol : pm_O) (orc : pm_Q) : pm_F ol orc 0 6 [] [.int (48), .ref 21] iH_42 = pm_F ol orc 0 8 [] [.ref 22, .ref 21] iH_43 := pm_F_nx rfl rfl rfl rfl
set_option maxRecDepth 100000 in
theorem i_s178 (ol : pm_O) (orc : pm_Q) : pm_F ol orc 0 8 [] [.ref 22, .ref 21] iH_43 = pm_F ol orc 0 11 [] [] iH_44 := pm_F_nx rfl rfl rfl rfl
set_option maxRecDepth 100000 in
theorem i_s179 (ol : pm_O) (orc : pm_Q) : pm_F ol orc 0 11 [] [] iH_44 = some (none, iH_44) := pm_F_rt rfl rfl rfl
set_option maxRecDepth 100000 in
theorem i_c9 (ol : pm_O) (orc : pm_Q) : pm_V ol orc 0 [.ref 21, .int (48)] iH_42 = some (none, iH_44) := (show pm_V ol orc 0 [.ref 21, .int (48)] iH_42 = pm_F ol orc 0 0 [(0, .ref 21), (1, .int (48))] [] iH_42 from (if_pos (r_le rfl)).trans (pm_F_live rfl)).trans ((i_s173 ol orc).trans ((i_s174 ol orc).trans ((i_s175 ol orc).trans ((i_s176 ol orc).trans ((i_s177 ol orc).trans ((i_s178 ol orc).trans (i_s179 ol orc)))))))
set_option maxRecDepth 100000 in
theorem i_s180 (ol : pm_O) (orc : pm_Q) : pm_F ol orc 13 11 [(0, .ref 20)] [.int (48), .ref 21, .ref 21, .ref 20] iH_42 = pm_F ol orc 13 14 [(0, .ref 20)] [.ref 21, .ref 20] iH_44 := (r_vc rfl rfl rfl rfl rfl rfl (r_le rfl) (r_le rfl) rfl).trans ((if_pos rfl).trans (by rw [i_c9]; rfl))
set_option maxRecDepth 100000 in
theorem i_s181 (ol : pm_O) (orc : pm_Q) : pm_F ol orc 13 14 [(0, .ref 20)] [.ref 21, .ref 20] iH_44 = pm_F ol orc 13 17 [(0, .ref 20)] [] iH_45 := pm_F_nx rfl rfl rfl rfl
set_option maxRecDepth 100000 in
theorem i_s182 (ol : pm_O) (orc : pm_Q) : pm_F ol orc 13 17 [(0, .ref 20)] [] iH_45 = pm_F ol orc 13 18 [] [.ref 20] iH_45 := pm_F_nx rfl rfl rfl rfl
set_option maxRecDepth 100000 in
theorem i_s183 (ol : pm_O) (orc : pm_Q) : pm_F ol orc 13 18 [] [.ref 20] iH_45 = pm_F ol orc 13 20 [] [.int (48), .ref 20] iH_45 := pm_F_nx rfl rfl rfl rfl
set_option maxRecDepth 100000 in
theorem i_s184 (ol : pm_O) (orc : pm_Q) : pm_F ol orc 13 20 [] [.int (48), .ref 20] iH_45 = pm_F ol orc 13 22 [] [.ref 23, .ref 20] iH_46 := pm_F_nx rfl rfl rfl rfl
set_option maxRecDepth 100000 in
theorem i_s185 (ol : pm_O) (orc : pm_Q) : pm_F ol orc 13 22 [] [.ref 23, .ref 20] iH_46 = pm_F ol orc 13 25 [] [] iH_47 := pm_F_nx rfl rfl rfl rfl
set_option maxRecDepth 100000 in
theorem i_s186 (ol : pm_O) (orc : pm_Q) : pm_F ol orc 13 25 [] [] iH_47 = some (none, iH_47) := pm_F_rt rfl rfl rfl
set_option maxRecDepth 100000 in
theorem i_c10 (ol : pm_O) (orc : pm_Q) : pm_V ol orc 13 [.ref 20] iH_41 = some (none, iH_47) := (show pm_V ol orc 13 [.ref 20] iH_41 = pm_F ol orc 13 0 [(0, .ref 20)] [] iH_41 from (if_pos (r_le rfl)).trans (pm_F_live rfl)).trans ((i_s167 ol orc).trans ((i_s168 ol orc).trans ((i_s169 ol orc).trans ((i_s170 ol orc).trans ((i_s171 ol orc).trans ((i_s172 ol orc).trans ((i_s180 ol orc).trans ((i_s181 ol orc).trans ((i_s182 ol orc).trans ((i_s183 ol orc).trans ((i_s184 ol orc).trans ((i_s185 ol orc).trans (i_s186 ol orc)))))))))))))
set_option maxRecDepth 100000 in
theorem i_s187 (ol : pm_O) (orc : pm_Q) : pm_F ol orc 98 20 [(0, .ref 0)] [.ref 20, .ref 20, .ref 0] iH_41 = pm_F ol orc 98 23 [(0, .ref 0)] [.ref 20, .ref 0] iH_47 := (r_vc rfl rfl rfl rfl rfl rfl (r_le rfl) (r_le rfl) rfl).trans ((if_pos rfl).trans (by rw [i_c10]; rfl))
set_option maxRecDepth 100000 in
theorem i_s188 (ol : pm_O) (orc : pm_Q) : pm_F ol orc 98 23 [(0, .ref 0)] [.ref 20, .ref 0] iH_47 = pm_F ol orc 98 26 [(0, .ref 0)] [] iH_48 := pm_F_nx rfl rfl rfl rfl
set_option maxRecDepth 100000 in
theorem i_s189 (ol : pm_O) (orc : pm_Q) : pm_F ol orc 98 26 [(0, .ref 0)] [] iH_48 = pm_F ol orc 98 27 [(0, .ref 0)] [.ref 0] iH_48 := pm_F_nx rfl rfl rfl rfl
set_option maxRecDepth 100000 in
theorem i_s190 (ol : pm_O) (orc : pm_Q) : pm_F ol orc 98 27 [(0, .ref 0)] [.ref 0] iH_48 = pm_F ol orc 98 30 [(0, .ref 0)] [.ref 24, .ref 0] iH_49 := pm_F_nx rfl rfl rfl rfl
set_option maxRecDepth 100000 in
theorem i_s191 (ol : pm_O) (orc : pm_Q) : pm_F ol orc 98 30 [(0, .ref 0)] [.ref 24, .ref 0] iH_49 = pm_F ol orc 98 31 [(0, .ref 0)] [.ref 24, .ref 24, .ref 0] iH_49 := pm_F_nx rfl rfl rfl rfl
set_option maxRecDepth 100000 in
theorem i_s192 (ol : pm_O) (orc : pm_Q) : pm_F ol orc 98 31 [(0, .ref 0)] [.ref 24, .ref 24, .ref 0] iH_49 = pm_F ol orc 98 33 [(0, .ref 0)] [.int (120), .ref 24, .ref 24, .ref 0] iH_49 := pm_F_nx rfl rfl rfl rfl
set_option maxRecDepth 100000 in
theorem i_s193 (ol : pm_O) (orc : pm_Q) : pm_F ol orc 0 0 [(0, .ref 24), (1, .int (120))] [] iH_49 = pm_F ol orc 0 1 [(0, .ref 24), (1, .int (120))] [.ref 24] iH_49 := pm_F_nx rfl rfl rfl rfl
set_option maxRecDepth 100000 in
theorem i_s194 (ol : pm_O) (orc : pm_Q) : pm_F ol orc 0 1 [(0, .ref 24), (1, .int (120))] [.ref 24] iH_49 = pm_F ol orc 0 4 [(0, .ref 24), (1, .int (120))] [] iH_49 := pm_F_nx rfl rfl rfl rfl
set_option maxRecDepth 100000 in
theorem i_s195 (ol : pm_O) (orc : pm_Q) : pm_F ol orc 0 4 [(0, .ref 24), (1, .int (120))] [] iH_49 = pm_F ol orc 0 5 [(1, .int (120))] [.ref 24] iH_49 := pm_F_nx rfl rfl rfl rfl
set_option maxRecDepth 100000 in
theorem i_s196 (ol : pm_O) (orc : pm_Q) : pm_F ol orc 0 5 [(1, .int (120))] [.ref 24] iH_49 = pm_F ol orc 0 6 [] [.int (120), .ref 24] iH_49 := pm_F_nx rfl rfl rfl rfl
set_option maxRecDepth 100000 in
theorem i_s197 (ol : pm_O) (orc : pm_Q) : pm_F ol orc 0 6 [] [.int (120), .ref 24] iH_49 = pm_F ol orc 0 8 [] [.ref 25, .ref 24] iH_50 := pm_F_nx rfl rfl rfl rfl
set_option maxRecDepth 100000 in
theorem i_s198 (ol : pm_O) (orc : pm_Q) : pm_F ol orc 0 8 [] [.ref 25, .ref 24] iH_50 = pm_F ol orc 0 11 [] [] iH_51 := pm_F_nx rfl rfl rfl rfl
set_option maxRecDepth 100000 in
theorem i_s199 (ol : pm_O) (orc : pm_Q) : pm_F ol orc 0 11 [] [] iH_51 = some (none, iH_51) := pm_F_rt rfl rfl rfl
set_option maxRecDepth 100000 in
theorem i_c11 (ol : pm_O) (orc : pm_Q) : pm_V ol orc 0 [.ref 24, .int (120)] iH_49 = some (none, iH_51) := (show pm_V ol orc 0 [.ref 24, .int (120)] iH_49 = pm_F ol orc 0 0 [(0, .ref 24), (1, .int (120))] [] iH_49 from (if_pos (r_le rfl)).trans (pm_F_live rfl)).trans ((i_s193 ol orc).trans ((i_s194 ol orc).trans ((i_s195 ol orc).trans ((i_s196 ol orc).trans ((i_s197 ol orc).trans ((i_s198 ol orc).trans (i_s199 ol orc)))))))
set_option maxRecDepth 100000 in
theorem i_s200 (ol : pm_O) (orc : pm_Q) : pm_F ol orc 98 33 [(0, .ref 0)] [.int (120), .ref 24, .ref 24, .ref 0] iH_49 = pm_F ol orc 98 36 [(0, .ref 0)] [.ref 24, .ref 0] iH_51 := (r_vc rfl rfl rfl rfl rfl rfl (r_le rfl) (r_le rfl) rfl).trans ((if_pos rfl).trans (by rw [i_c11]; rfl))
set_option maxRecDepth 100000 in
theorem i_s201 (ol : pm_O) (orc : pm_Q) : pm_F ol orc 98 36 [(0, .ref 0)] [.ref 24, .ref 0] iH_51 = pm_F ol orc 98 39 [(0, .ref 0)] [] iH_52 := pm_F_nx rfl rfl rfl rfl
set_option maxRecDepth 100000 in
theorem i_s202 (ol : pm_O) (orc : pm_Q) : pm_F ol orc 98 39 [(0, .ref 0)] [] iH_52 = pm_F ol orc 98 40 [(0, .ref 0)] [.ref 0] iH_52 := pm_F_nx rfl rfl rfl rfl
set_option maxRecDepth 100000 in
theorem i_s203 (ol : pm_O) (orc : pm_Q) : pm_F ol orc 98 40 [(0, .ref 0)] [.ref 0] iH_52 = pm_F ol orc 98 43 [(0, .ref 0)] [.ref 24] iH_52 := pm_F_nx rfl rfl rfl rfl
set_option maxRecDepth 100000 in
theorem i_s204 (ol : pm_O) (orc : pm_Q) : pm_F ol orc 98 43 [(0, .ref 0)] [.ref 24] iH_52 = pm_F ol orc 98 44 [(0, .ref 0)] [.int (0), .ref 24] iH_52 := pm_F_nx rfl rfl rfl rfl
set_option maxRecDepth 100000 in
theorem i_s205 (ol : pm_O) (orc : pm_Q) : pm_F ol orc 4 0 [(0, .ref 24), (1, .int (0))] [] iH_52 = pm_F ol orc 4 1 [(0, .ref 24), (1, .int (0))] [.ref 24] iH_52 := pm_F_nx rfl rfl rfl rfl
set_option maxRecDepth 100000 in
theorem i_s206 (ol : pm_O) (orc : pm_Q) : pm_F ol orc 4 1 [(0, .ref 24), (1, .int (0))] [.ref 24] iH_52 = pm_F ol orc 4 4 [(0, .ref 24), (1, .int (0))] [.int (0)] iH_52 := pm_F_nx rfl rfl rfl rfl
set_option maxRecDepth 100000 in
theorem i_s207 (ol : pm_O) (orc : pm_Q) : pm_F ol orc 4 4 [(0, .ref 24), (1, .int (0))] [.int (0)] iH_52 = pm_F ol orc 4 5 [(0, .ref 24), (1, .int (0))] [.ref 24, .int (0)] iH_52 := pm_F_nx rfl rfl rfl rfl
set_option maxRecDepth 100000 in
theorem i_s208 (ol : pm_O) (orc : pm_Q) : pm_F ol orc 4 5 [(0, .ref 24), (1, .int (0))] [.ref 24, .int (0)] iH_52 = pm_F ol orc 4 8 [(0, .ref 24), (1, .int (0))] [.ref 25, .int (0)] iH_52 := pm_F_nx rfl rfl rfl rfl
set_option maxRecDepth 100000 in
theorem i_s209 (ol : pm_O) (orc : pm_Q) : pm_F ol orc 4 8 [(0, .ref 24), (1, .int (0))] [.ref 25, .int (0)] iH_52 = pm_F ol orc 4 9 [(0, .ref 24), (1, .int (0))] [.int (120), .int (0)] iH_52 := pm_F_nx rfl rfl rfl rfl
set_option maxRecDepth 100000 in
theorem i_s210 (ol : pm_O) (orc : pm_Q) : pm_F ol orc 4 9 [(0, .ref 24), (1, .int (0))] [.int (120), .int (0)] iH_52 = pm_F ol orc 4 12 [(0, .ref 24), (1, .int (0))] [] iH_52 := pm_F_nx rfl rfl rfl rfl
set_option maxRecDepth 100000 in
theorem i_s211 (ol : pm_O) (orc : pm_Q) : pm_F ol orc 4 12 [(0, .ref 24), (1, .int (0))] [] iH_52 = pm_F ol orc 4 13 [(0, .ref 24), (1, .int (0))] [.ref 24] iH_52 := pm_F_nx rfl rfl rfl rfl
set_option maxRecDepth 100000 in
theorem i_s212 (ol : pm_O) (orc : pm_Q) : pm_F ol orc 4 13 [(0, .ref 24), (1, .int (0))] [.ref 24] iH_52 = pm_F ol orc 4 16 [(0, .ref 24), (1, .int (0))] [.ref 25] iH_52 := pm_F_nx rfl rfl rfl rfl
set_option maxRecDepth 100000 in
theorem i_s213 (ol : pm_O) (orc : pm_Q) : pm_F ol orc 4 16 [(0, .ref 24), (1, .int (0))] [.ref 25] iH_52 = pm_F ol orc 4 17 [(0, .ref 24), (1, .int (0))] [.ref 24, .ref 25] iH_52 := pm_F_nx rfl rfl rfl rfl
set_option maxRecDepth 100000 in
theorem i_s214 (ol : pm_O) (orc : pm_Q) : pm_F ol orc 4 17 [(0, .ref 24), (1, .int (0))] [.ref 24, .ref 25] iH_52 = pm_F ol orc 4 20 [(0, .ref 24), (1, .int (0))] [.int (0), .ref 25] iH_52 := pm_F_nx rfl rfl rfl rfl
set_option maxRecDepth 100000 in
theorem i_s215 (ol : pm_O) (orc : pm_Q) : pm_F ol orc 4 20 [(0, .ref 24), (1, .int (0))] [.int (0), .ref 25] iH_52 = pm_F ol orc 4 21 [(0, .ref 24)] [.int (0), .int (0), .ref 25] iH_52 := pm_F_nx rfl rfl rfl rfl
set_option maxRecDepth 100000 in
theorem i_s216 (ol : pm_O) (orc : pm_Q) : pm_F ol orc 4 21 [(0, .ref 24)] [.int (0), .int (0), .ref 25] iH_52 = pm_F ol orc 4 22 [(0, .ref 24)] [] iH_53 := pm_F_nx rfl rfl rfl rfl
set_option maxRecDepth 100000 in
theorem i_s217 (ol : pm_O) (orc : pm_Q) : pm_F ol orc 4 22 [(0, .ref 24)] [] iH_53 = pm_F ol orc 4 23 [] [.ref 24] iH_53 := pm_F_nx rfl rfl rfl rfl
set_option maxRecDepth 100000 in
theorem i_s218 (ol : pm_O) (orc : pm_Q) : pm_F ol orc 4 23 [] [.ref 24] iH_53 = pm_F ol orc 4 24 [] [.ref 24, .ref 24] iH_53 := pm_F_nx rfl rfl rfl rfl
set_option maxRecDepth 100000 in
theorem i_s219 (ol : pm_O) (orc : pm_Q) : pm_F ol orc 4 24 [] [.ref 24, .ref 24] iH_53 = pm_F ol orc 4 27 [] [.int (0), .ref 24] iH_53 := pm_F_nx rfl rfl rfl rfl
set_option maxRecDepth 100000 in
theorem i_s220 (ol : pm_O) (orc : pm_Q) : pm_F ol orc 4 27 [] [.int (0), .ref 24] iH_53 = pm_F ol orc 4 28 [] [.int (1), .int (0), .ref 24] iH_53 := pm_F_nx rfl rfl rfl rfl
set_option maxRecDepth 100000 in
theorem i_s221 (ol : pm_O) (orc : pm_Q) : pm_F ol orc 4 28 [] [.int (1), .int (0), .ref 24] iH_53 = pm_F ol orc 4 29 [] [.int (1), .ref 24] iH_53 := pm_F_nx rfl rfl rfl rfl
set_option maxRecDepth 100000 in
theorem i_s222 (ol : pm_O) (orc : pm_Q) : pm_F ol orc 4 29 [] [.int (1), .ref 24] iH_53 = pm_F ol orc 4 32 [] [] iH_54 := pm_F_nx rfl rfl rfl rfl
set_option maxRecDepth 100000 in
theorem i_s223 (ol : pm_O) (orc : pm_Q) : pm_F ol orc 4 32 [] [] iH_54 = some (none, iH_54) := pm_F_rt rfl rfl rfl
set_option maxRecDepth 100000 in
theorem i_c12 (ol : pm_O) (orc : pm_Q) : pm_V ol orc 4 [.ref 24, .int (0)] iH_52 = some (none, iH_54) := (show pm_V ol orc 4 [.ref 24, .int (0)] iH_52 = pm_F ol orc 4 0 [(0, .ref 24), (1, .int (0))] [] iH_52 from (if_pos (r_le rfl)).trans (pm_F_live rfl)).trans ((i_s205 ol orc).trans ((i_s206 ol orc).trans ((i_s207 ol orc).trans ((i_s208 ol orc).trans ((i_s209 ol orc).trans ((i_s210 ol orc).trans ((i_s211 ol orc).trans ((i_s212 ol orc).trans ((i_s213 ol orc).trans ((i_s214 ol orc).trans ((i_s215 ol orc).trans ((i_s216 ol orc).trans ((i_s217 ol orc).trans ((i_s218 ol orc).trans ((i_s219 ol orc).trans ((i_s220 ol orc).trans ((i_s221 ol orc).trans ((i_s222 ol orc).trans (i_s223 ol orc)))))))))))))))))))
set_option maxRecDepth 100000 in
theorem i_s224 (ol : pm_O) (orc : pm_Q) : pm_F ol orc 98 44 [(0, .ref 0)] [.int (0), .ref 24] iH_52 = pm_F ol orc 98 47 [(0, .ref 0)] [] iH_54 := (r_vc rfl rfl rfl rfl rfl rfl (r_le rfl) (r_le rfl) rfl).trans ((if_pos rfl).trans (by rw [i_c12]; rfl))
set_option maxRecDepth 100000 in
theorem i_s225 (ol : pm_O) (orc : pm_Q) : pm_F ol orc 98 47 [(0, .ref 0)] [] iH_54 = pm_F ol orc 98 48 [(0, .ref 0)] [.ref 0] iH_54 := pm_F_nx rfl rfl rfl rfl
set_option maxRecDepth 100000 in
theorem i_s226 (ol : pm_O) (orc : pm_Q) : pm_F ol orc 98 48 [(0, .ref 0)] [.ref 0] iH_54 = pm_F ol orc 98 51 [(0, .ref 0)] [.ref 26, .ref 0] iH_55 := pm_F_nx rfl rfl rfl rfl
set_option maxRecDepth 100000 in
theorem i_s227 (ol : pm_O) (orc : pm_Q) : pm_F ol orc 98 51 [(0, .ref 0)] [.ref 26, .ref 0] iH_55 = pm_F ol orc 98 52 [(0, .ref 0)] [.ref 26, .ref 26, .ref 0] iH_55 := pm_F_nx rfl rfl rfl rfl
set_option maxRecDepth 100000 in
theorem i_s228 (ol : pm_O) (orc : pm_Q) : pm_F ol orc 98 52 [(0, .ref 0)] [.ref 26, .ref 26, .ref 0] iH_55 = pm_F ol orc 98 53 [(0, .ref 0)] [.ref 0, .ref 26, .ref 26, .ref 0] iH_55 := pm_F_nx rfl rfl rfl rfl
set_option maxRecDepth 100000 in
theorem i_s229 (ol : pm_O) (orc : pm_Q) : pm_F ol orc 98 53 [(0, .ref 0)] [.ref 0, .ref 26, .ref 26, .ref 0] iH_55 = pm_F ol orc 98 56 [(0, .ref 0)] [.ref 1, .ref 26, .ref 26, .ref 0] iH_55 := pm_F_nx rfl rfl rfl rfl
set_option maxRecDepth 100000 in
theorem i_s230 (ol : pm_O) (orc : pm_Q) : pm_F ol orc 98 56 [(0, .ref 0)] [.ref 1, .ref 26, .ref 26, .ref 0] iH_55 = pm_F ol orc 98 57 [(0, .ref 0)] [.ref 0, .ref 1, .ref 26, .ref 26, .ref 0] iH_55 := pm_F_nx rfl rfl rfl rfl
set_option maxRecDepth 100000 in
theorem i_s231 (ol : pm_O) (orc : pm_Q) : pm_F ol orc 98 57 [(0, .ref 0)] [.ref 0, .ref 1, .ref 26, .ref 26, .ref 0] iH_55 = pm_F ol orc 98 60 [(0, .ref 0)] [.ref 24, .ref 1, .ref 26, .ref 26, .ref 0] iH_55 := pm_F_nx rfl rfl rfl rfl
set_option maxRecDepth 100000 in
theorem i_s232 (ol : pm_O) (orc : pm_Q) : pm_F ol orc 68 0 [(0, .ref 26), (1, .ref 1), (2, .ref 24)] [] iH_55 = pm_F ol orc 68 1 [(0, .ref 26), (1, .ref 1), (2, .ref 24)] [.ref 26] iH_55 := pm_F_nx rfl rfl rfl rfl
set_option maxRecDepth 100000 in
theorem i_s233 (ol : pm_O) (orc : pm_Q) : pm_F ol orc 68 1 [(0, .ref 26), (1, .ref 1), (2, .ref 24)] [.ref 26] iH_55 = pm_F ol orc 68 4 [(0, .ref 26), (1, .ref 1), (2, .ref 24)] [] iH_55 := pm_F_nx rfl rfl rfl rfl
set_option maxRecDepth 100000 in
theorem i_s234 (ol : pm_O) (orc : pm_Q) : pm_F ol orc 68 4 [(0, .ref 26), (1, .ref 1), (2, .ref 24)] [] iH_55 = pm_F ol orc 68 5 [(0, .ref 26), (1, .ref 1), (2, .ref 24)] [.ref 26] iH_55 := pm_F_nx rfl rfl rfl rfl
set_option maxRecDepth 100000 in
theorem i_s235 (ol : pm_O) (orc : pm_Q) : pm_F ol orc 68 5 [(0, .ref 26), (1, .ref 1), (2, .ref 24)] [.ref 26] iH_55 = pm_F ol orc 68 7 [(0, .ref 26), (1, .ref 1), (2, .ref 24)] [.int (48), .ref 26] iH_55 := pm_F_nx rfl rfl rfl rfl
set_option maxRecDepth 100000 in
theorem i_s236 (ol : pm_O) (orc : pm_Q) : pm_F ol orc 68 7 [(0, .ref 26), (1, .ref 1), (2, .ref 24)] [.int (48), .ref 26] iH_55 = pm_F ol orc 68 9 [(0, .ref 26), (1, .ref 1), (2, .ref 24)] [.ref 27, .ref 26] iH_56 := pm_F_nx rfl rfl rfl rfl
set_option maxRecDepth 100000 in
theorem i_s237 (ol : pm_O) (orc : pm_Q) : pm_F ol orc 68 9 [(0, .ref 26), (1, .ref 1), (2, .ref 24)] [.ref 27, .ref 26] iH_56 = pm_F ol orc 68 12 [(0, .ref 26), (1, .ref 1), (2, .ref 24)] [] iH_57 := pm_F_nx rfl rfl rfl rfl
set_option maxRecDepth 100000 in
theorem i_s238 (ol : pm_O) (orc : pm_Q) : pm_F ol orc 68 12 [(0, .ref 26), (1, .ref 1), (2, .ref 24)] [] iH_57 = pm_F ol orc 68 13 [(0, .ref 26), (1, .ref 1), (2, .ref 24)] [.ref 26] iH_57 := pm_F_nx rfl rfl rfl rfl
set_option maxRecDepth 100000 in
theorem i_s239 (ol : pm_O) (orc : pm_Q) : pm_F ol orc 68 13 [(0, .ref 26), (1, .ref 1), (2, .ref 24)] [.ref 26] iH_57 = pm_F ol orc 68 16 [(0, .ref 26), (1, .ref 1), (2, .ref 24)] [.ref 28, .ref 26] iH_58 := pm_F_nx rfl rfl rfl rfl
set_option maxRecDepth 100000 in
theorem i_s240 (ol : pm_O) (orc : pm_Q) : pm_F ol orc 68 16 [(0, .ref 26), (1, .ref 1), (2, .ref 24)] [.ref 28, .ref 26] iH_58 = pm_F ol orc 68 17 [(0, .ref 26), (1, .ref 1), (2, .ref 24)] [.ref 28, .ref 28, .ref 26] iH_58 := pm_F_nx rfl rfl rfl rfl
set_option maxRecDepth 100000 in
theorem i_s241 (ol : pm_O) (orc : pm_Q) : pm_F ol orc 39 0 [(0, .ref 28)] [] iH_58 = pm_F ol orc 39 1 [(0, .ref 28)] [.ref 28] iH_58 := pm_F_nx rfl rfl rfl rfl
set_option maxRecDepth 100000 in
theorem i_s242 (ol : pm_O) (orc : pm_Q) : pm_F ol orc 39 1 [(0, .ref 28)] [.ref 28] iH_58 = pm_F ol orc 39 4 [(0, .ref 28)] [] iH_58 := pm_F_nx rfl rfl rfl rfl
set_option maxRecDepth 100000 in
theorem i_s243 (ol : pm_O) (orc : pm_Q) : pm_F ol orc 39 4 [(0, .ref 28)] [] iH_58 = pm_F ol orc 39 5 [] [.ref 28] iH_58 := pm_F_nx rfl rfl rfl rfl
set_option maxRecDepth 100000 in
theorem i_s244 (ol : pm_O) (orc : pm_Q) : pm_F ol orc 39 5 [] [.ref 28] iH_58 = pm_F ol orc 39 7 [] [.int (9), .ref 28] iH_58 := pm_F_nx rfl rfl rfl rfl
set_option maxRecDepth 100000 in
theorem i_s245 (ol : pm_O) (orc : pm_Q) : pm_F ol orc 39 7 [] [.int (9), .ref 28] iH_58 = pm_F ol orc 39 9 [] [.ref 29, .ref 28] iH_59 := pm_F_nx rfl rfl rfl rfl
set_option maxRecDepth 100000 in
theorem i_s246 (ol : pm_O) (orc : pm_Q) : pm_F ol orc 39 9 [] [.ref 29, .ref 28] iH_59 = pm_F ol orc 39 12 [] [] iH_60 := pm_F_nx rfl rfl rfl rfl
set_option maxRecDepth 100000 in
theorem i_s247 (ol : pm_O) (orc : pm_Q) : pm_F ol orc 39 12 [] [] iH_60 = some (none, iH_60) := pm_F_rt rfl rfl rfl
set_option maxRecDepth 100000 in
theorem i_c13 (ol : pm_O) (orc : pm_Q) : pm_V ol orc 39 [.ref 28] iH_58 = some (none, iH_60) := (show pm_V ol orc 39 [.ref 28] iH_58 = pm_F ol orc 39 0 [(0, .ref 28)] [] iH_58 from (if_pos (r_le rfl)).trans (pm_F_live rfl)).trans ((i_s241 ol orc).trans ((i_s242 ol orc).trans ((i_s243 ol orc).trans ((i_s244 ol orc).trans ((i_s245 ol orc).trans ((i_s246 ol orc).trans (i_s247 ol orc)))))))
set_option maxRecDepth 100000 in
theorem i_s248 (ol : pm_O) (orc : pm_Q) : pm_F ol orc 68 17 [(0, .ref 26), (1, .ref 1), (2, .ref 24)] [.ref 28, .ref 28, .ref 26] iH_58 = pm_F ol orc 68 20 [(0, .ref 26), (1, .ref 1), (2, .ref 24)] [.ref 28, .ref 26] iH_60 := (r_vc rfl rfl rfl rfl rfl rfl (r_le rfl) (r_le rfl) rfl).trans ((if_pos rfl).trans (by rw [i_c13]; rfl))
set_option maxRecDepth 100000 in
theorem i_s249 (ol : pm_O) (orc : pm_Q) : pm_F ol orc 68 20 [(0, .ref 26), (1, .ref 1), (2, .ref 24)] [.ref 28, .ref 26] iH_60 = pm_F ol orc 68 23 [(0, .ref 26), (1, .ref 1), (2, .ref 24)] [] iH_61 := pm_F_nx rfl rfl rfl rfl
set_option maxRecDepth 100000 in
theorem i_s250 (ol : pm_O) (orc : pm_Q) : pm_F ol orc 68 23 [(0, .ref 26), (1, .ref 1), (2, .ref 24)] [] iH_61 = pm_F ol orc 68 24 [(0, .ref 26), (1, .ref 1), (2, .ref 24)] [.ref 26] iH_61 := pm_F_nx rfl rfl rfl rfl
set_option maxRecDepth 100000 in
theorem i_s251 (ol : pm_O) (orc : pm_Q) : pm_F ol orc 68 24 [(0, .ref 26), (1, .ref 1), (2, .ref 24)] [.ref 26] iH_61 = pm_F ol orc 68 25 [(0, .ref 26), (1, .ref 1), (2, .ref 24)] [.ref 1, .ref 26] iH_61 := pm_F_nx rfl rfl rfl rfl
set_option maxRecDepth 100000 in
theorem i_s252 (ol : pm_O) (orc : pm_Q) : pm_F ol orc 68 25 [(0, .ref 26), (1, .ref 1), (2, .ref 24)] [.ref 1, .ref 26] iH_61 = pm_F ol orc 68 28 [(0, .ref 26), (1, .ref 1), (2, .ref 24)] [] iH_62 := pm_F_nx rfl rfl rfl rfl
set_option maxRecDepth 100000 in
theorem i_s253 (ol : pm_O) (orc : pm_Q) : pm_F ol orc 68 28 [(0, .ref 26), (1, .ref 1), (2, .ref 24)] [] iH_62 = pm_F ol orc 68 29 [(0, .ref 26), (1, .ref 1), (2, .ref 24)] [.ref 26] iH_62 := pm_F_nx rfl rfl rfl rfl
set_option maxRecDepth 100000 in
theorem i_s254 (ol : pm_O) (orc : pm_Q) : pm_F ol orc 68 29 [(0, .ref 26), (1, .ref 1), (2, .ref 24)] [.ref 26] iH_62 = pm_F ol orc 68 30 [(0, .ref 26), (1, .ref 1)] [.ref 24, .ref 26] iH_62 := pm_F_nx rfl rfl rfl rfl
set_option maxRecDepth 100000 in
theorem i_s255 (ol : pm_O) (orc : pm_Q) : pm_F ol orc 68 30 [(0, .ref 26), (1, .ref 1)] [.ref 24, .ref 26] iH_62 = pm_F ol orc 68 33 [(0, .ref 26), (1, .ref 1)] [] iH_63 := pm_F_nx rfl rfl rfl rfl
set_option maxRecDepth 100000 in
theorem i_s256 (ol : pm_O) (orc : pm_Q) : pm_F ol orc 68 33 [(0, .ref 26), (1, .ref 1)] [] iH_63 = pm_F ol orc 68 34 [(1, .ref 1)] [.ref 26] iH_63 := pm_F_nx rfl rfl rfl rfl
set_option maxRecDepth 100000 in
theorem i_s257 (ol : pm_O) (orc : pm_Q) : pm_F ol orc 68 34 [(1, .ref 1)] [.ref 26] iH_63 = pm_F ol orc 68 37 [(1, .ref 1)] [.ref 30, .ref 26] iH_64 := pm_F_nx rfl rfl rfl rfl
set_option maxRecDepth 100000 in
theorem i_s258 (ol : pm_O) (orc : pm_Q) : pm_F ol orc 68 37 [(1, .ref 1)] [.ref 30, .ref 26] iH_64 = pm_F ol orc 68 38 [(1, .ref 1)] [.ref 30, .ref 30, .ref 26] iH_64 := pm_F_nx rfl rfl rfl rfl
set_option maxRecDepth 100000 in
theorem i_s259 (ol : pm_O) (orc : pm_Q) : pm_F ol orc 68 38 [(1, .ref 1)] [.ref 30, .ref 30, .ref 26] iH_64 = pm_F ol orc 68 39 [] [.ref 1, .ref 30, .ref 30, .ref 26] iH_64 := pm_F_nx rfl rfl rfl rfl
set_option maxRecDepth 100000 in
theorem i_s260 (ol : pm_O) (orc : pm_Q) : pm_F ol orc 46 0 [(0, .ref 30), (1, .ref 1)] [] iH_64 = pm_F ol orc 46 1 [(0, .ref 30), (1, .ref 1)] [.ref 30] iH_64 := pm_F_nx rfl rfl rfl rfl
set_option maxRecDepth 100000 in
theorem i_s261 (ol : pm_O) (orc : pm_Q) : pm_F ol orc 46 1 [(0, .ref 30), (1, .ref 1)] [.ref 30] iH_64 = pm_F ol orc 46 4 [(0, .ref 30), (1, .ref 1)] [] iH_64 := pm_F_nx rfl rfl rfl rfl
set_option maxRecDepth 100000 in
theorem i_s262 (ol : pm_O) (orc : pm_Q) : pm_F ol orc 46 4 [(0, .ref 30), (1, .ref 1)] [] iH_64 = pm_F ol orc 46 5 [(0, .ref 30), (1, .ref 1)] [.ref 30] iH_64 := pm_F_nx rfl rfl rfl rfl
set_option maxRecDepth 100000 in
theorem i_s263 (ol : pm_O) (orc : pm_Q) : pm_F ol orc 46 5 [(0, .ref 30), (1, .ref 1)] [.ref 30] iH_64 = pm_F ol orc 46 8 [(0, .ref 30), (1, .ref 1)] [.int (441), .ref 30] iH_64 := pm_F_nx rfl rfl rfl rfl
set_option maxRecDepth 100000 in
theorem i_s264 (ol : pm_O) (orc : pm_Q) : pm_F ol orc 46 8 [(0, .ref 30), (1, .ref 1)] [.int (441), .ref 30] iH_64 = pm_F ol orc 46 10 [(0, .ref 30), (1, .ref 1)] [.ref 31, .ref 30] iH_65 := pm_F_nx rfl rfl rfl rfl
set_option maxRecDepth 100000 in
theorem i_s265 (ol : pm_O) (orc : pm_Q) : pm_F ol orc 46 10 [(0, .ref 30), (1, .ref 1)] [.ref 31, .ref 30] iH_65 = pm_F ol orc 46 13 [(0, .ref 30), (1, .ref 1)] [] iH_66 := pm_F_nx rfl rfl rfl rfl
set_option maxRecDepth 100000 in
theorem i_s266 (ol : pm_O) (orc : pm_Q) : pm_F ol orc 46 13 [(0, .ref 30), (1, .ref 1)] [] iH_66 = pm_F ol orc 46 14 [(0, .ref 30), (1, .ref 1)] [.ref 30] iH_66 := pm_F_nx rfl rfl rfl rfl
set_option maxRecDepth 100000 in
theorem i_s267 (ol : pm_O) (orc : pm_Q) : pm_F ol orc 46 14 [(0, .ref 30), (1, .ref 1)] [.ref 30] iH_66 = pm_F ol orc 46 16 [(0, .ref 30), (1, .ref 1)] [.int (49), .ref 30] iH_66 := pm_F_nx rfl rfl rfl rfl
set_option maxRecDepth 100000 in
theorem i_s268 (ol : pm_O) (orc : pm_Q) : pm_F ol orc 46 16 [(0, .ref 30), (1, .ref 1)] [.int (49), .ref 30] iH_66 = pm_F ol orc 46 18 [(0, .ref 30), (1, .ref 1)] [.ref 32, .ref 30] iH_67 := pm_F_nx rfl rfl rfl rfl
set_option maxRecDepth 100000 in
theorem i_s269 (ol : pm_O) (orc : pm_Q) : pm_F ol orc 46 18 [(0, .ref 30), (1, .ref 1)] [.ref 32, .ref 30] iH_67 = pm_F ol orc 46 21 [(0, .ref 30), (1, .ref 1)] [] iH_68 := pm_F_nx rfl rfl rfl rfl
set_option maxRecDepth 100000 in
theorem i_s270 (ol : pm_O) (orc : pm_Q) : pm_F ol orc 46 21 [(0, .ref 30), (1, .ref 1)] [] iH_68 = pm_F ol orc 46 22 [(0, .ref 30), (1, .ref 1)] [.ref 30] iH_68 := pm_F_nx rfl rfl rfl rfl
set_option maxRecDepth 100000 in
theorem i_s271 (ol : pm_O) (orc : pm_Q) : pm_F ol orc 46 22 [(0, .ref 30), (1, .ref 1)] [.ref 30] iH_68 = pm_F ol orc 46 23 [(0, .ref 30)] [.ref 1, .ref 30] iH_68 := pm_F_nx rfl rfl rfl rfl
set_option maxRecDepth 100000 in
theorem i_s272 (ol : pm_O) (orc : pm_Q) : pm_F ol orc 46 23 [(0, .ref 30)] [.ref 1, .ref 30] iH_68 = pm_F ol orc 46 26 [(0, .ref 30)] [] iH_69 := pm_F_nx rfl rfl rfl rfl
set_option maxRecDepth 100000 in
theorem i_s273 (ol : pm_O) (orc : pm_Q) : pm_F ol orc 46 26 [(0, .ref 30)] [] iH_69 = pm_F ol orc 46 27 [] [.ref 30] iH_69 := pm_F_nx rfl rfl rfl rfl
set_option maxRecDepth 100000 in
theorem i_s274 (ol : pm_O) (orc : pm_Q) : pm_F ol orc 46 27 [] [.ref 30] iH_69 = pm_F ol orc 46 30 [] [.ref 32] iH_69 := pm_F_nx rfl rfl rfl rfl
set_option maxRecDepth 100000 in
theorem i_s275 (ol : pm_O) (orc : pm_Q) : pm_F ol orc 46 30 [] [.ref 32] iH_69 = pm_F ol orc 46 31 [] [.int (-1), .ref 32] iH_69 := pm_F_nx rfl rfl rfl rfl
set_option maxRecDepth 100000 in
theorem i_c14 (ol : pm_O) (orc : pm_Q) : pm_V ol orc 167 [.ref 32, .int (-1)] iH_69 = some (none, iH_70) := fillG ol orc (a := 32) (n := 49) (-1) (by decide) (by decide) rfl
set_option maxRecDepth 100000 in
theorem i_s276 (ol : pm_O) (orc : pm_Q) : pm_F ol orc 46 31 [] [.int (-1), .ref 32] iH_69 = pm_F ol orc 46 34 [] [] iH_70 := (r_sc rfl rfl rfl rfl (r_le rfl) (Or.inr (r_le rfl)) rfl).trans (by rw [i_c14]; rfl)
set_option maxRecDepth 100000 in
theorem i_s277 (ol : pm_O) (orc : pm_Q) : pm_F ol orc 46 34 [] [] iH_70 = some (none, iH_70) := pm_F_rt rfl rfl rfl
set_option maxRecDepth 100000 in
theorem i_c15 (ol : pm_O) (orc : pm_Q) : pm_V ol orc 46 [.ref 30, .ref 1] iH_64 = some (none, iH_70) := (show pm_V ol orc 46 [.ref 30, .ref 1] iH_64 = pm_F ol orc 46 0 [(0, .ref 30), (1, .ref 1)] [] iH_64 from (if_pos (r_le rfl)).trans (pm_F_live rfl)).trans ((i_s260 ol orc).trans ((i_s261 ol orc).trans ((i_s262 ol orc).trans ((i_s263 ol orc).trans ((i_s264 ol orc).trans ((i_s265 ol orc).trans ((i_s266 ol orc).trans ((i_s267 ol orc).trans ((i_s268 ol orc).trans ((i_s269 ol orc).trans ((i_s270 ol orc).trans ((i_s271 ol orc).trans ((i_s272 ol orc).trans ((i_s273 ol orc).trans ((i_s274 ol orc).trans ((i_s275 ol orc).trans ((i_s276 ol orc).trans (i_s277 ol orc))))))))))))))))))
set_option maxRecDepth 100000 in
theorem i_s278 (ol : pm_O) (orc : pm_Q) : pm_F ol orc 68 39 [] [.ref 1, .ref 30, .ref 30, .ref 26] iH_64 = pm_F ol orc 68 42 [] [.ref 30, .ref 26] iH_70 := (r_vc rfl rfl rfl rfl rfl rfl (r_le rfl) (r_le rfl) rfl).trans ((if_pos rfl).trans (by rw [i_c15]; rfl))
set_option maxRecDepth 100000 in
theorem i_s279 (ol : pm_O) (orc : pm_Q) : pm_F ol orc 68 42 [] [.ref 30, .ref 26] iH_70 = pm_F ol orc 68 45 [] [] iH_71 := pm_F_nx rfl rfl rfl rfl
set_option maxRecDepth 100000 in
theorem i_s280 (ol : pm_O) (orc : pm_Q) : pm_F ol orc 68 45 [] [] iH_71 = some (none, iH_71) := pm_F_rt rfl rfl rfl
set_option maxRecDepth 100000 in
theorem i_c16 (ol : pm_O) (orc : pm_Q) : pm_V ol orc 68 [.ref 26, .ref 1, .ref 24] iH_55 = some (none, iH_71) := (show pm_V ol orc 68 [.ref 26, .ref 1, .ref 24] iH_55 = pm_F ol orc 68 0 [(0, .ref 26), (1, .ref 1), (2, .ref 24)] [] iH_55 from (if_pos (r_le rfl)).trans (pm_F_live rfl)).trans ((i_s232 ol orc).trans ((i_s233 ol orc).trans ((i_s234 ol orc).trans ((i_s235 ol orc).trans ((i_s236 ol orc).trans ((i_s237 ol orc).trans ((i_s238 ol orc).trans ((i_s239 ol orc).trans ((i_s240 ol orc).trans ((i_s248 ol orc).trans ((i_s249 ol orc).trans ((i_s250 ol orc).trans ((i_s251 ol orc).trans ((i_s252 ol orc).trans ((i_s253 ol orc).trans ((i_s254 ol orc).trans ((i_s255 ol orc).trans ((i_s256 ol orc).trans ((i_s257 ol orc).trans ((i_s258 ol orc).trans ((i_s259 ol orc).trans ((i_s278 ol orc).trans ((i_s279 ol orc).trans (i_s280 ol orc))))))))))))))))))))))))
set_option maxRecDepth 100000 in
theorem i_s281 (ol : pm_O) (orc : pm_Q) : pm_F ol orc 98 60 [(0, .ref 0)] [.ref 24, .ref 1, .ref 26, .ref 26, .ref 0] iH_55 = pm_F ol orc 98 63 [(0, .ref 0)] [.ref 26, .ref 0] iH_71 := (r_vc rfl rfl rfl rfl rfl rfl (r_le rfl) (r_le rfl) rfl).trans ((if_pos rfl).trans (by rw [i_c16]; rfl))
set_option maxRecDepth 100000 in
theorem i_s282 (ol : pm_O) (orc : pm_Q) : pm_F ol orc 98 63 [(0, .ref 0)] [.ref 26, .ref 0] iH_71 = pm_F ol orc 98 66 [(0, .ref 0)] [] iH_72 := pm_F_nx rfl rfl rfl rfl
set_option maxRecDepth 100000 in
theorem i_s283 (ol : pm_O) (orc : pm_Q) : pm_F ol orc 98 66 [(0, .ref 0)] [] iH_72 = pm_F ol orc 98 69 [(0, .ref 0)] [.ref 33] iH_73 := pm_F_nx rfl rfl rfl rfl
set_option maxRecDepth 100000 in
theorem i_s284 (ol : pm_O) (orc : pm_Q) : pm_F ol orc 98 69 [(0, .ref 0)] [.ref 33] iH_73 = pm_F ol orc 98 70 [(0, .ref 0)] [.ref 33, .ref 33] iH_73 := pm_F_nx rfl rfl rfl rfl
set_option maxRecDepth 100000 in
theorem i_s285 (ol : pm_O) (orc : pm_Q) : pm_F ol orc 98 70 [(0, .ref 0)] [.ref 33, .ref 33] iH_73 = pm_F ol orc 98 71 [(0, .ref 0)] [.ref 0, .ref 33, .ref 33] iH_73 := pm_F_nx rfl rfl rfl rfl
set_option maxRecDepth 100000 in
theorem i_s286 (ol : pm_O) (orc : pm_Q) : pm_F ol orc 98 71 [(0, .ref 0)] [.ref 0, .ref 33, .ref 33] iH_73 = pm_F ol orc 98 74 [(0, .ref 0)] [.ref 1, .ref 33, .ref 33] iH_73 := pm_F_nx rfl rfl rfl rfl
set_option maxRecDepth 100000 in
theorem i_s287 (ol : pm_O) (orc : pm_Q) : pm_F ol orc 98 74 [(0, .ref 0)] [.ref 1, .ref 33, .ref 33] iH_73 = pm_F ol orc 98 75 [(0, .ref 0)] [.ref 0, .ref 1, .ref 33, .ref 33] iH_73 := pm_F_nx rfl rfl rfl rfl
set_option maxRecDepth 100000 in
theorem i_s288 (ol : pm_O) (orc : pm_Q) : pm_F ol orc 98 75 [(0, .ref 0)] [.ref 0, .ref 1, .ref 33, .ref 33] iH_73 = pm_F ol orc 98 78 [(0, .ref 0)] [.ref 20, .ref 1, .ref 33, .ref 33] iH_73 := pm_F_nx rfl rfl rfl rfl
set_option maxRecDepth 100000 in
theorem i_s289 (ol : pm_O) (orc : pm_Q) : pm_F ol orc 56 0 [(0, .ref 33), (1, .ref 1), (2, .ref 20)] [] iH_73 = pm_F ol orc 56 1 [(0, .ref 33), (1, .ref 1), (2, .ref 20)] [.ref 33] iH_73 := pm_F_nx rfl rfl rfl rfl
set_option maxRecDepth 100000 in
theorem i_s290 (ol : pm_O) (orc : pm_Q) : pm_F ol orc 56 1 [(0, .ref 33), (1, .ref 1), (2, .ref 20)] [.ref 33] iH_73 = pm_F ol orc 56 4 [(0, .ref 33), (1, .ref 1), (2, .ref 20)] [] iH_73 := pm_F_nx rfl rfl rfl rfl
set_option maxRecDepth 100000 in
theorem i_s291 (ol : pm_O) (orc : pm_Q) : pm_F ol orc 56 4 [(0, .ref 33), (1, .ref 1), (2, .ref 20)] [] iH_73 = pm_F ol orc 56 5 [(0, .ref 33), (1, .ref 1), (2, .ref 20)] [.ref 33] iH_73 := pm_F_nx rfl rfl rfl rfl
set_option maxRecDepth 100000 in
theorem i_s292 (ol : pm_O) (orc : pm_Q) : pm_F ol orc 56 5 [(0, .ref 33), (1, .ref 1), (2, .ref 20)] [.ref 33] iH_73 = pm_F ol orc 56 8 [(0, .ref 33), (1, .ref 1), (2, .ref 20)] [.ref 34, .ref 33] iH_74 := pm_F_nx rfl rfl rfl rfl
set_option maxRecDepth 100000 in
theorem i_s293 (ol : pm_O) (orc : pm_Q) : pm_F ol orc 56 8 [(0, .ref 33), (1, .ref 1), (2, .ref 20)] [.ref 34, .ref 33] iH_74 = pm_F ol orc 56 9 [(0, .ref 33), (1, .ref 1), (2, .ref 20)] [.ref 34, .ref 34, .ref 33] iH_74 := pm_F_nx rfl rfl rfl rfl
set_option maxRecDepth 100000 in
theorem i_s294 (ol : pm_O) (orc : pm_Q) : pm_F ol orc 39 0 [(0, .ref 34)] [] iH_74 = pm_F ol orc 39 1 [(0, .ref 34)] [.ref 34] iH_74 := pm_F_nx rfl rfl rfl rfl
set_option maxRecDepth 100000 in
theorem i_s295 (ol : pm_O) (orc : pm_Q) : pm_F ol orc 39 1 [(0, .ref 34)] [.ref 34] iH_74 = pm_F ol orc 39 4 [(0, .ref 34)] [] iH_74 := pm_F_nx rfl rfl rfl rfl
set_option maxRecDepth 100000 in
theorem i_s296 (ol : pm_O) (orc : pm_Q) : pm_F ol orc 39 4 [(0, .ref 34)] [] iH_74 = pm_F ol orc 39 5 [] [.ref 34] iH_74 := pm_F_nx rfl rfl rfl rfl
set_option maxRecDepth 100000 in
theorem i_s297 (ol : pm_O) (orc : pm_Q) : pm_F ol orc 39 5 [] [.ref 34] iH_74 = pm_F ol orc 39 7 [] [.int (9), .ref 34] iH_74 := pm_F_nx rfl rfl rfl rfl
set_option maxRecDepth 100000 in
theorem i_s298 (ol : pm_O) (orc : pm_Q) : pm_F ol orc 39 7 [] [.int (9), .ref 34] iH_74 = pm_F ol orc 39 9 [] [.ref 35, .ref 34] iH_75 := pm_F_nx rfl rfl rfl rfl
set_option maxRecDepth 100000 in
theorem i_s299 (ol : pm_O) (orc : pm_Q) : pm_F ol orc 39 9 [] [.ref 35, .ref 34] iH_75 = pm_F ol orc 39 12 [] [] iH_76 := pm_F_nx rfl rfl rfl rfl
set_option maxRecDepth 100000 in
theorem i_s300 (ol : pm_O) (orc : pm_Q) : pm_F ol orc 39 12 [] [] iH_76 = some (none, iH_76) := pm_F_rt rfl rfl rfl
set_option maxRecDepth 100000 in
theorem i_c17 (ol : pm_O) (orc : pm_Q) : pm_V ol orc 39 [.ref 34] iH_74 = some (none, iH_76) := (show pm_V ol orc 39 [.ref 34] iH_74 = pm_F ol orc 39 0 [(0, .ref 34)] [] iH_74 from (if_pos (r_le rfl)).trans (pm_F_live rfl)).trans ((i_s294 ol orc).trans ((i_s295 ol orc).trans ((i_s296 ol orc).trans ((i_s297 ol orc).trans ((i_s298 ol orc).trans ((i_s299 ol orc).trans (i_s300 ol orc)))))))
set_option maxRecDepth 100000 in
theorem i_s301 (ol : pm_O) (orc : pm_Q) : pm_F ol orc 56 9 [(0, .ref 33), (1, .ref 1), (2, .ref 20)] [.ref 34, .ref 34, .ref 33] iH_74 = pm_F ol orc 56 12 [(0, .ref 33), (1, .ref 1), (2, .ref 20)] [.ref 34, .ref 33] iH_76 := (r_vc rfl rfl rfl rfl rfl rfl (r_le rfl) (r_le rfl) rfl).trans ((if_pos rfl).trans (by rw [i_c17]; rfl))
set_option maxRecDepth 100000 in
theorem i_s302 (ol : pm_O) (orc : pm_Q) : pm_F ol orc 56 12 [(0, .ref 33), (1, .ref 1), (2, .ref 20)] [.ref 34, .ref 33] iH_76 = pm_F ol orc 56 15 [(0, .ref 33), (1, .ref 1), (2, .ref 20)] [] iH_77 := pm_F_nx rfl rfl rfl rfl
set_option maxRecDepth 100000 in
theorem i_s303 (ol : pm_O) (orc : pm_Q) : pm_F ol orc 56 15 [(0, .ref 33), (1, .ref 1), (2, .ref 20)] [] iH_77 = pm_F ol orc 56 16 [(0, .ref 33), (1, .ref 1), (2, .ref 20)] [.ref 33] iH_77 := pm_F_nx rfl rfl rfl rfl
set_option maxRecDepth 100000 in
theorem i_s304 (ol : pm_O) (orc : pm_Q) : pm_F ol orc 56 16 [(0, .ref 33), (1, .ref 1), (2, .ref 20)] [.ref 33] iH_77 = pm_F ol orc 56 17 [(0, .ref 33), (1, .ref 1), (2, .ref 20)] [.int (4), .ref 33] iH_77 := pm_F_nx rfl rfl rfl rfl
set_option maxRecDepth 100000 in
theorem i_s305 (ol : pm_O) (orc : pm_Q) : pm_F ol orc 56 17 [(0, .ref 33), (1, .ref 1), (2, .ref 20)] [.int (4), .ref 33] iH_77 = pm_F ol orc 56 19 [(0, .ref 33), (1, .ref 1), (2, .ref 20)] [.ref 36, .ref 33] iH_78 := pm_F_nx rfl rfl rfl rfl
set_option maxRecDepth 100000 in
theorem i_s306 (ol : pm_O) (orc : pm_Q) : pm_F ol orc 56 19 [(0, .ref 33), (1, .ref 1), (2, .ref 20)] [.ref 36, .ref 33] iH_78 = pm_F ol orc 56 22 [(0, .ref 33), (1, .ref 1), (2, .ref 20)] [] iH_79 := pm_F_nx rfl rfl rfl rfl
set_option maxRecDepth 100000 in
theorem i_s307 (ol : pm_O) (orc : pm_Q) : pm_F ol orc 56 22 [(0, .ref 33), (1, .ref 1), (2, .ref 20)] [] iH_79 = pm_F ol orc 56 23 [(0, .ref 33), (1, .ref 1), (2, .ref 20)] [.ref 33] iH_79 := pm_F_nx rfl rfl rfl rfl
set_option maxRecDepth 100000 in
theorem i_s308 (ol : pm_O) (orc : pm_Q) : pm_F ol orc 56 23 [(0, .ref 33), (1, .ref 1), (2, .ref 20)] [.ref 33] iH_79 = pm_F ol orc 56 24 [(0, .ref 33), (2, .ref 20)] [.ref 1, .ref 33] iH_79 := pm_F_nx rfl rfl rfl rfl
set_option maxRecDepth 100000 in
theorem i_s309 (ol : pm_O) (orc : pm_Q) : pm_F ol orc 56 24 [(0, .ref 33), (2, .ref 20)] [.ref 1, .ref 33] iH_79 = pm_F ol orc 56 27 [(0, .ref 33), (2, .ref 20)] [] iH_80 := pm_F_nx rfl rfl rfl rfl
set_option maxRecDepth 100000 in
theorem i_s310 (ol : pm_O) (orc : pm_Q) : pm_F ol orc 56 27 [(0, .ref 33), (2, .ref 20)] [] iH_80 = pm_F ol orc 56 28 [(2, .ref 20)] [.ref 33] iH_80 := pm_F_nx rfl rfl rfl rfl
set_option maxRecDepth 100000 in
theorem i_s311 (ol : pm_O) (orc : pm_Q) : pm_F ol orc 56 28 [(2, .ref 20)] [.ref 33] iH_80 = pm_F ol orc 56 29 [] [.ref 20, .ref 33] iH_80 := pm_F_nx rfl rfl rfl rfl
set_option maxRecDepth 100000 in
theorem i_s312 (ol : pm_O) (orc : pm_Q) : pm_F ol orc 56 29 [] [.ref 20, .ref 33] iH_80 = pm_F ol orc 56 32 [] [] iH_81 := pm_F_nx rfl rfl rfl rfl
set_option maxRecDepth 100000 in
theorem i_s313 (ol : pm_O) (orc : pm_Q) : pm_F ol orc 56 32 [] [] iH_81 = some (none, iH_81) := pm_F_rt rfl rfl rfl
set_option maxRecDepth 100000 in
theorem i_c18 (ol : pm_O) (orc : pm_Q) : pm_V ol orc 56 [.ref 33, .ref 1, .ref 20] iH_73 = some (none, iH_81) := (show pm_V ol orc 56 [.ref 33, .ref 1, .ref 20] iH_73 = pm_F ol orc 56 0 [(0, .ref 33), (1, .ref 1), (2, .ref 20)] [] iH_73 from (if_pos (r_le rfl)).trans (pm_F_live rfl)).trans ((i_s289 ol orc).trans ((i_s290 ol orc).trans ((i_s291 ol orc).trans ((i_s292 ol orc).trans ((i_s293 ol orc).trans ((i_s301 ol orc).trans ((i_s302 ol orc).trans ((i_s303 ol orc).trans ((i_s304 ol orc).trans ((i_s305 ol orc).trans ((i_s306 ol orc).trans ((i_s307 ol orc).trans ((i_s308 ol orc).trans ((i_s309 ol orc).trans ((i_s310 ol orc).trans ((i_s311 ol orc).trans ((i_s312 ol orc).trans (i_s313 ol orc))))))))))))))))))
set_option maxRecDepth 100000 in
theorem i_s314 (ol : pm_O) (orc : pm_Q) : pm_F ol orc 98 78 [(0, .ref 0)] [.ref 20, .ref 1, .ref 33, .ref 33] iH_73 = pm_F ol orc 98 81 [(0, .ref 0)] [.ref 33] iH_81 := (r_vc rfl rfl rfl rfl rfl rfl (r_le rfl) (r_le rfl) rfl).trans ((if_pos rfl).trans (by rw [i_c18]; rfl))
set_option maxRecDepth 100000 in
theorem i_s315 (ol : pm_O) (orc : pm_Q) : pm_F ol orc 98 81 [(0, .ref 0)] [.ref 33] iH_81 = pm_F ol orc 98 82 [(0, .ref 0), (1, .ref 33)] [] iH_81 := pm_F_nx rfl rfl rfl rfl
set_option maxRecDepth 100000 in
theorem i_s316 (ol : pm_O) (orc : pm_Q) : pm_F ol orc 98 82 [(0, .ref 0), (1, .ref 33)] [] iH_81 = pm_F ol orc 98 83 [(0, .ref 0), (1, .ref 33)] [.ref 0] iH_81 := pm_F_nx rfl rfl rfl rfl
set_option maxRecDepth 100000 in
theorem i_s317 (ol : pm_O) (orc : pm_Q) : pm_F ol orc 98 83 [(0, .ref 0), (1, .ref 33)] [.ref 0] iH_81 = pm_F ol orc 98 86 [(0, .ref 0), (1, .ref 33)] [.ref 37, .ref 0] iH_82 := pm_F_nx rfl rfl rfl rfl
set_option maxRecDepth 100000 in
theorem i_s318 (ol : pm_O) (orc : pm_Q) : pm_F ol orc 98 86 [(0, .ref 0), (1, .ref 33)] [.ref 37, .ref 0] iH_82 = pm_F ol orc 98 87 [(0, .ref 0), (1, .ref 33)] [.ref 37, .ref 37, .ref 0] iH_82 := pm_F_nx rfl rfl rfl rfl
set_option maxRecDepth 100000 in
theorem i_s319 (ol : pm_O) (orc : pm_Q) : pm_F ol orc 98 87 [(0, .ref 0), (1, .ref 33)] [.ref 37, .ref 37, .ref 0] iH_82 = pm_F ol orc 98 88 [(0, .ref 0), (1, .ref 33)] [.ref 0, .ref 37, .ref 37, .ref 0] iH_82 := pm_F_nx rfl rfl rfl rfl
set_option maxRecDepth 100000 in
theorem i_s320 (ol : pm_O) (orc : pm_Q) : pm_F ol orc 98 88 [(0, .ref 0), (1, .ref 33)] [.ref 0, .ref 37, .ref 37, .ref 0] iH_82 = pm_F ol orc 98 91 [(0, .ref 0), (1, .ref 33)] [.ref 1, .ref 37, .ref 37, .ref 0] iH_82 := pm_F_nx rfl rfl rfl rfl
set_option maxRecDepth 100000 in
theorem i_s321 (ol : pm_O) (orc : pm_Q) : pm_F ol orc 98 91 [(0, .ref 0), (1, .ref 33)] [.ref 1, .ref 37, .ref 37, .ref 0] iH_82 = pm_F ol orc 98 92 [(0, .ref 0), (1, .ref 33)] [.ref 0, .ref 1, .ref 37, .ref 37, .ref 0] iH_82 := pm_F_nx rfl rfl rfl rfl
set_option maxRecDepth 100000 in
theorem i_s322 (ol : pm_O) (orc : pm_Q) : pm_F ol orc 98 92 [(0, .ref 0), (1, .ref 33)] [.ref 0, .ref 1, .ref 37, .ref 37, .ref 0] iH_82 = pm_F ol orc 98 95 [(0, .ref 0), (1, .ref 33)] [.ref 20, .ref 1, .ref 37, .ref 37, .ref 0] iH_82 := pm_F_nx rfl rfl rfl rfl
set_option maxRecDepth 100000 in
theorem i_s323 (ol : pm_O) (orc : pm_Q) : pm_F ol orc 98 95 [(0, .ref 0), (1, .ref 33)] [.ref 20, .ref 1, .ref 37, .ref 37, .ref 0] iH_82 = pm_F ol orc 98 96 [(0, .ref 0), (1, .ref 33)] [.ref 33, .ref 20, .ref 1, .ref 37, .ref 37, .ref 0] iH_82 := pm_F_nx rfl rfl rfl rfl
set_option maxRecDepth 100000 in
theorem i_s324 (ol : pm_O) (orc : pm_Q) : pm_F ol orc 98 96 [(0, .ref 0), (1, .ref 33)] [.ref 33, .ref 20, .ref 1, .ref 37, .ref 37, .ref 0] iH_82 = pm_F ol orc 98 97 [(0, .ref 0), (1, .ref 33)] [.ref 0, .ref 33, .ref 20, .ref 1, .ref 37, .ref 37, .ref 0] iH_82 := pm_F_nx rfl rfl rfl rfl
set_option maxRecDepth 100000 in
theorem i_s325 (ol : pm_O) (orc : pm_Q) : pm_F ol orc 98 97 [(0, .ref 0), (1, .ref 33)] [.ref 0, .ref 33, .ref 20, .ref 1, .ref 37, .ref 37, .ref 0] iH_82 = pm_F ol orc 98 100 [(0, .ref 0), (1, .ref 33)] [.ref 26, .ref 33, .ref 20, .ref 1, .ref 37, .ref 37, .ref 0] iH_82 := pm_F_nx rfl rfl rfl rfl
set_option maxRecDepth 100000 in
theorem i_s326 (ol : pm_O) (orc : pm_Q) : pm_F ol orc 98 100 [(0, .ref 0), (1, .ref 33)] [.ref 26, .ref 33, .ref 20, .ref 1, .ref 37, .ref 37, .ref 0] iH_82 = pm_F ol orc 98 103 [(0, .ref 0), (1, .ref 33)] [.ref 30, .ref 33, .ref 20, .ref 1, .ref 37, .ref 37, .ref 0] iH_82 := pm_F_nx rfl rfl rfl rfl
set_option maxRecDepth 100000 in
theorem i_s327 (ol : pm_O) (orc : pm_Q) : pm_F ol orc 6 0 [(0, .ref 37), (1, .ref 1), (2, .ref 20), (3, .ref 33), (4, .ref 30)] [] iH_82 = pm_F ol orc 6 1 [(0, .ref 37), (1, .ref 1), (2, .ref 20), (3, .ref 33), (4, .ref 30)] [.ref 37] iH_82 := pm_F_nx rfl rfl rfl rfl
set_option maxRecDepth 100000 in
theorem i_s328 (ol : pm_O) (orc : pm_Q) : pm_F ol orc 6 1 [(0, .ref 37), (1, .ref 1), (2, .ref 20), (3, .ref 33), (4, .ref 30)] [.ref 37] iH_82 = pm_F ol orc 6 4 [(0, .ref 37), (1, .ref 1), (2, .ref 20), (3, .ref 33), (4, .ref 30)] [] iH_82 := pm_F_nx rfl rfl rfl rfl
set_option maxRecDepth 100000 in
theorem i_s329 (ol : pm_O) (orc : pm_Q) : pm_F ol orc 6 4 [(0, .ref 37), (1, .ref 1), (2, .ref 20), (3, .ref 33), (4, .ref 30)] [] iH_82 = pm_F ol orc 6 5 [(0, .ref 37), (1, .ref 1), (2, .ref 20), (3, .ref 33), (4, .ref 30)] [.ref 37] iH_82 := pm_F_nx rfl rfl rfl rfl
set_option maxRecDepth 100000 in
theorem i_s330 (ol : pm_O) (orc : pm_Q) : pm_F ol orc 6 5 [(0, .ref 37), (1, .ref 1), (2, .ref 20), (3, .ref 33), (4, .ref 30)] [.ref 37] iH_82 = pm_F ol orc 6 6 [(0, .ref 37), (2, .ref 20), (3, .ref 33), (4, .ref 30)] [.ref 1, .ref 37] iH_82 := pm_F_nx rfl rfl rfl rfl
set_option maxRecDepth 100000 in
theorem i_s331 (ol : pm_O) (orc : pm_Q) : pm_F ol orc 6 6 [(0, .ref 37), (2, .ref 20), (3, .ref 33), (4, .ref 30)] [.ref 1, .ref 37] iH_82 = pm_F ol orc 6 9 [(0, .ref 37), (2, .ref 20), (3, .ref 33), (4, .ref 30)] [] iH_83 := pm_F_nx rfl rfl rfl rfl
set_option maxRecDepth 100000 in
theorem i_s332 (ol : pm_O) (orc : pm_Q) : pm_F ol orc 6 9 [(0, .ref 37), (2, .ref 20), (3, .ref 33), (4, .ref 30)] [] iH_83 = pm_F ol orc 6 10 [(0, .ref 37), (2, .ref 20), (3, .ref 33), (4, .ref 30)] [.ref 37] iH_83 := pm_F_nx rfl rfl rfl rfl
set_option maxRecDepth 100000 in
theorem i_s333 (ol : pm_O) (orc : pm_Q) : pm_F ol orc 6 10 [(0, .ref 37), (2, .ref 20), (3, .ref 33), (4, .ref 30)] [.ref 37] iH_83 = pm_F ol orc 6 11 [(0, .ref 37), (3, .ref 33), (4, .ref 30)] [.ref 20, .ref 37] iH_83 := pm_F_nx rfl rfl rfl rfl
set_option maxRecDepth 100000 in
theorem i_s334 (ol : pm_O) (orc : pm_Q) : pm_F ol orc 6 11 [(0, .ref 37), (3, .ref 33), (4, .ref 30)] [.ref 20, .ref 37] iH_83 = pm_F ol orc 6 14 [(0, .ref 37), (3, .ref 33), (4, .ref 30)] [] iH_84 := pm_F_nx rfl rfl rfl rfl
set_option maxRecDepth 100000 in
theorem i_s335 (ol : pm_O) (orc : pm_Q) : pm_F ol orc 6 14 [(0, .ref 37), (3, .ref 33), (4, .ref 30)] [] iH_84 = pm_F ol orc 6 15 [(0, .ref 37), (3, .ref 33), (4, .ref 30)] [.ref 37] iH_84 := pm_F_nx rfl rfl rfl rfl
set_option maxRecDepth 100000 in
theorem i_s336 (ol : pm_O) (orc : pm_Q) : pm_F ol orc 6 15 [(0, .ref 37), (3, .ref 33), (4, .ref 30)] [.ref 37] iH_84 = pm_F ol orc 6 16 [(0, .ref 37), (4, .ref 30)] [.ref 33, .ref 37] iH_84 := pm_F_nx rfl rfl rfl rfl
set_option maxRecDepth 100000 in
theorem i_s337 (ol : pm_O) (orc : pm_Q) : pm_F ol orc 6 16 [(0, .ref 37), (4, .ref 30)] [.ref 33, .ref 37] iH_84 = pm_F ol orc 6 19 [(0, .ref 37), (4, .ref 30)] [] iH_85 := pm_F_nx rfl rfl rfl rfl
set_option maxRecDepth 100000 in
theorem i_s338 (ol : pm_O) (orc : pm_Q) : pm_F ol orc 6 19 [(0, .ref 37), (4, .ref 30)] [] iH_85 = pm_F ol orc 6 20 [(4, .ref 30)] [.ref 37] iH_85 := pm_F_nx rfl rfl rfl rfl
set_option maxRecDepth 100000 in
theorem i_s339 (ol : pm_O) (orc : pm_Q) : pm_F ol orc 6 20 [(4, .ref 30)] [.ref 37] iH_85 = pm_F ol orc 6 22 [] [.ref 30, .ref 37] iH_85 := pm_F_nx rfl rfl rfl rfl
set_option maxRecDepth 100000 in
theorem i_s340 (ol : pm_O) (orc : pm_Q) : pm_F ol orc 6 22 [] [.ref 30, .ref 37] iH_85 = pm_F ol orc 6 25 [] [] iH_86 := pm_F_nx rfl rfl rfl rfl
set_option maxRecDepth 100000 in
theorem i_s341 (ol : pm_O) (orc : pm_Q) : pm_F ol orc 6 25 [] [] iH_86 = some (none, iH_86) := pm_F_rt rfl rfl rfl
set_option maxRecDepth 100000 in
theorem i_c19 (ol : pm_O) (orc : pm_Q) : pm_V ol orc 6 [.ref 37, .ref 1, .ref 20, .ref 33, .ref 30] iH_82 = some (none, iH_86) := (show pm_V ol orc 6 [.ref 37, .ref 1, .ref 20, .ref 33, .ref 30] iH_82 = pm_F ol orc 6 0 [(0, .ref 37), (1, .ref 1), (2, .ref 20), (3, .ref 33), (4, .ref 30)] [] iH_82 from (if_pos (r_le rfl)).trans (pm_F_live rfl)).trans ((i_s327 ol orc).trans ((i_s328 ol orc).trans ((i_s329 ol orc).trans ((i_s330 ol orc).trans ((i_s331 ol orc).trans ((i_s332 ol orc).trans ((i_s333 ol orc).trans ((i_s334 ol orc).trans ((i_s335 ol orc).trans ((i_s336 ol orc).trans ((i_s337 ol orc).trans ((i_s338 ol orc).trans ((i_s339 ol orc).trans ((i_s340 ol orc).trans (i_s341 ol orc)))))))))))))))
set_option maxRecDepth 100000 in
theorem i_s342 (ol : pm_O) (orc : pm_Q) : pm_F ol orc 98 103 [(0, .ref 0), (1, .ref 33)] [.ref 30, .ref 33, .ref 20, .ref 1, .ref 37, .ref 37, .ref 0] iH_82 = pm_F ol orc 98 106 [(0, .ref 0), (1, .ref 33)] [.ref 37, .ref 0] iH_86 := (r_vc rfl rfl rfl rfl rfl rfl (r_le rfl) (r_le rfl) rfl).trans ((if_pos rfl).trans (by rw [i_c19]; rfl))
set_option maxRecDepth 100000 in
theorem i_s343 (ol : pm_O) (orc : pm_Q) : pm_F ol orc 98 106 [(0, .ref 0), (1, .ref 33)] [.ref 37, .ref 0] iH_86 = pm_F ol orc 98 109 [(0, .ref 0), (1, .ref 33)] [] iH_87 := pm_F_nx rfl rfl rfl rfl
set_option maxRecDepth 100000 in
theorem i_s344 (ol : pm_O) (orc : pm_Q) : pm_F ol orc 98 109 [(0, .ref 0), (1, .ref 33)] [] iH_87 = pm_F ol orc 98 110 [(0, .ref 0), (1, .ref 33)] [.ref 0] iH_87 := pm_F_nx rfl rfl rfl rfl
set_option maxRecDepth 100000 in
theorem i_s345 (ol : pm_O) (orc : pm_Q) : pm_F ol orc 98 110 [(0, .ref 0), (1, .ref 33)] [.ref 0] iH_87 = pm_F ol orc 98 113 [(0, .ref 0), (1, .ref 33)] [.ref 38, .ref 0] iH_88 := pm_F_nx rfl rfl rfl rfl
set_option maxRecDepth 100000 in
theorem i_s346 (ol : pm_O) (orc : pm_Q) : pm_F ol orc 98 113 [(0, .ref 0), (1, .ref 33)] [.ref 38, .ref 0] iH_88 = pm_F ol orc 98 114 [(0, .ref 0), (1, .ref 33)] [.ref 38, .ref 38, .ref 0] iH_88 := pm_F_nx rfl rfl rfl rfl
set_option maxRecDepth 100000 in
theorem i_s347 (ol : pm_O) (orc : pm_Q) : pm_F ol orc 98 114 [(0, .ref 0), (1, .ref 33)] [.ref 38, .ref 38, .ref 0] iH_88 = pm_F ol orc 98 115 [(0, .ref 0), (1, .ref 33)] [.ref 0, .ref 38, .ref 38, .ref 0] iH_88 := pm_F_nx rfl rfl rfl rfl
set_option maxRecDepth 100000 in
theorem i_s348 (ol : pm_O) (orc : pm_Q) : pm_F ol orc 98 115 [(0, .ref 0), (1, .ref 33)] [.ref 0, .ref 38, .ref 38, .ref 0] iH_88 = pm_F ol orc 98 118 [(0, .ref 0), (1, .ref 33)] [.ref 1, .ref 38, .ref 38, .ref 0] iH_88 := pm_F_nx rfl rfl rfl rfl
set_option maxRecDepth 100000 in
theorem i_s349 (ol : pm_O) (orc : pm_Q) : pm_F ol orc 98 118 [(0, .ref 0), (1, .ref 33)] [.ref 1, .ref 38, .ref 38, .ref 0] iH_88 = pm_F ol orc 98 119 [(1, .ref 33)] [.ref 0, .ref 1, .ref 38, .ref 38, .ref 0] iH_88 := pm_F_nx rfl rfl rfl rfl
set_option maxRecDepth 100000 in
theorem i_s350 (ol : pm_O) (orc : pm_Q) : pm_F ol orc 98 119 [(1, .ref 33)] [.ref 0, .ref 1, .ref 38, .ref 38, .ref 0] iH_88 = pm_F ol orc 98 122 [(1, .ref 33)] [.ref 20, .ref 1, .ref 38, .ref 38, .ref 0] iH_88 := pm_F_nx rfl rfl rfl rfl
set_option maxRecDepth 100000 in
theorem i_s351 (ol : pm_O) (orc : pm_Q) : pm_F ol orc 98 122 [(1, .ref 33)] [.ref 20, .ref 1, .ref 38, .ref 38, .ref 0] iH_88 = pm_F ol orc 98 123 [] [.ref 33, .ref 20, .ref 1, .ref 38, .ref 38, .ref 0] iH_88 := pm_F_nx rfl rfl rfl rfl
set_option maxRecDepth 100000 in
theorem i_s352 (ol : pm_O) (orc : pm_Q) : pm_F ol orc 27 0 [(0, .ref 38), (1, .ref 1), (2, .ref 20), (3, .ref 33)] [] iH_88 = pm_F ol orc 27 1 [(0, .ref 38), (1, .ref 1), (2, .ref 20), (3, .ref 33)] [.ref 38] iH_88 := pm_F_nx rfl rfl rfl rfl
set_option maxRecDepth 100000 in
theorem i_s353 (ol : pm_O) (orc : pm_Q) : pm_F ol orc 27 1 [(0, .ref 38), (1, .ref 1), (2, .ref 20), (3, .ref 33)] [.ref 38] iH_88 = pm_F ol orc 27 4 [(0, .ref 38), (1, .ref 1), (2, .ref 20), (3, .ref 33)] [] iH_88 := pm_F_nx rfl rfl rfl rfl
set_option maxRecDepth 100000 in
theorem i_s354 (ol : pm_O) (orc : pm_Q) : pm_F ol orc 27 4 [(0, .ref 38), (1, .ref 1), (2, .ref 20), (3, .ref 33)] [] iH_88 = pm_F ol orc 27 5 [(0, .ref 38), (1, .ref 1), (2, .ref 20), (3, .ref 33)] [.ref 38] iH_88 := pm_F_nx rfl rfl rfl rfl
set_option maxRecDepth 100000 in
theorem i_s355 (ol : pm_O) (orc : pm_Q) : pm_F ol orc 27 5 [(0, .ref 38), (1, .ref 1), (2, .ref 20), (3, .ref 33)] [.ref 38] iH_88 = pm_F ol orc 27 8 [(0, .ref 38), (1, .ref 1), (2, .ref 20), (3, .ref 33)] [.ref 39, .ref 38] iH_89 := pm_F_nx rfl rfl rfl rfl
set_option maxRecDepth 100000 in
theorem i_s356 (ol : pm_O) (orc : pm_Q) : pm_F ol orc 27 8 [(0, .ref 38), (1, .ref 1), (2, .ref 20), (3, .ref 33)] [.ref 39, .ref 38] iH_89 = pm_F ol orc 27 9 [(0, .ref 38), (1, .ref 1), (2, .ref 20), (3, .ref 33)] [.ref 39, .ref 39, .ref 38] iH_89 := pm_F_nx rfl rfl rfl rfl
set_option maxRecDepth 100000 in
theorem i_s357 (ol : pm_O) (orc : pm_Q) : pm_F ol orc 77 0 [(0, .ref 39)] [] iH_89 = pm_F ol orc 77 1 [(0, .ref 39)] [.ref 39] iH_89 := pm_F_nx rfl rfl rfl rfl
set_option maxRecDepth 100000 in
theorem i_s358 (ol : pm_O) (orc : pm_Q) : pm_F ol orc 77 1 [(0, .ref 39)] [.ref 39] iH_89 = pm_F ol orc 77 4 [(0, .ref 39)] [] iH_89 := pm_F_nx rfl rfl rfl rfl
set_option maxRecDepth 100000 in
theorem i_s359 (ol : pm_O) (orc : pm_Q) : pm_F ol orc 77 4 [(0, .ref 39)] [] iH_89 = pm_F ol orc 77 5 [(0, .ref 39)] [.ref 39] iH_89 := pm_F_nx rfl rfl rfl rfl
set_option maxRecDepth 100000 in
theorem i_s360 (ol : pm_O) (orc : pm_Q) : pm_F ol orc 77 5 [(0, .ref 39)] [.ref 39] iH_89 = pm_F ol orc 77 8 [(0, .ref 39)] [.ref 40, .ref 39] iH_90 := pm_F_nx rfl rfl rfl rfl
set_option maxRecDepth 100000 in
theorem i_s361 (ol : pm_O) (orc : pm_Q) : pm_F ol orc 77 8 [(0, .ref 39)] [.ref 40, .ref 39] iH_90 = pm_F ol orc 77 9 [(0, .ref 39)] [.ref 40, .ref 40, .ref 39] iH_90 := pm_F_nx rfl rfl rfl rfl
set_option maxRecDepth 100000 in
theorem i_s362 (ol : pm_O) (orc : pm_Q) : pm_F ol orc 77 9 [(0, .ref 39)] [.ref 40, .ref 40, .ref 39] iH_90 = pm_F ol orc 77 11 [(0, .ref 39)] [.int (120), .ref 40, .ref 40, .ref 39] iH_90 := pm_F_nx rfl rfl rfl rfl
set_option maxRecDepth 100000 in
theorem i_s363 (ol : pm_O) (orc : pm_Q) : pm_F ol orc 0 0 [(0, .ref 40), (1, .int (120))] [] iH_90 = pm_F ol orc 0 1 [(0, .ref 40), (1, .int (120))] [.ref 40] iH_90 := pm_F_nx rfl rfl rfl rfl
set_option maxRecDepth 100000 in
theorem i_s364 (ol : pm_O) (orc : pm_Q) : pm_F ol orc 0 1 [(0, .ref 40), (1, .int (120))] [.ref 40] iH_90 = pm_F ol orc 0 4 [(0, .ref 40), (1, .int (120))] [] iH_90 := pm_F_nx rfl rfl rfl rfl
set_option maxRecDepth 100000 in
theorem i_s365 (ol : pm_O) (orc : pm_Q) : pm_F ol orc 0 4 [(0, .ref 40), (1, .int (120))] [] iH_90 = pm_F ol orc 0 5 [(1, .int (120))] [.ref 40] iH_90 := pm_F_nx rfl rfl rfl rfl
set_option maxRecDepth 100000 in
theorem i_s366 (ol : pm_O) (orc : pm_Q) : pm_F ol orc 0 5 [(1, .int (120))] [.ref 40] iH_90 = pm_F ol orc 0 6 [] [.int (120), .ref 40] iH_90 := pm_F_nx rfl rfl rfl rfl
set_option maxRecDepth 100000 in
theorem i_s367 (ol : pm_O) (orc : pm_Q) : pm_F ol orc 0 6 [] [.int (120), .ref 40] iH_90 = pm_F ol orc 0 8 [] [.ref 41, .ref 40] iH_91 := pm_F_nx rfl rfl rfl rfl
set_option maxRecDepth 100000 in
theorem i_s368 (ol : pm_O) (orc : pm_Q) : pm_F ol orc 0 8 [] [.ref 41, .ref 40] iH_91 = pm_F ol orc 0 11 [] [] iH_92 := pm_F_nx rfl rfl rfl rfl
set_option maxRecDepth 100000 in
theorem i_s369 (ol : pm_O) (orc : pm_Q) : pm_F ol orc 0 11 [] [] iH_92 = some (none, iH_92) := pm_F_rt rfl rfl rfl
set_option maxRecDepth 100000 in
theorem i_c20 (ol : pm_O) (orc : pm_Q) : pm_V ol orc 0 [.ref 40, .int (120)] iH_90 = some (none, iH_92) := (show pm_V ol orc 0 [.ref 40, .int (120)] iH_90 = pm_F ol orc 0 0 [(0, .ref 40), (1, .int (120))] [] iH_90 from (if_pos (r_le rfl)).trans (pm_F_live rfl)).trans ((i_s363 ol orc).trans ((i_s364 ol orc).trans ((i_s365 ol orc).trans ((i_s366 ol orc).trans ((i_s367 ol orc).trans ((i_s368 ol orc).trans (i_s369 ol orc)))))))
set_option maxRecDepth 100000 in
theorem i_s370 (ol : pm_O) (orc : pm_Q) : pm_F ol orc 77 11 [(0, .ref 39)] [.int (120), .ref 40, .ref 40, .ref 39] iH_90 = pm_F ol orc 77 14 [(0, .ref 39)] [.ref 40, .ref 39] iH_92 := (r_vc rfl rfl rfl rfl rfl rfl (r_le rfl) (r_le rfl) rfl).trans ((if_pos rfl).trans (by rw [i_c20]; rfl))
set_option maxRecDepth 100000 in
theorem i_s371 (ol : pm_O) (orc : pm_Q) : pm_F ol orc 77 14 [(0, .ref 39)] [.ref 40, .ref 39] iH_92 = pm_F ol orc 77 17 [(0, .ref 39)] [] iH_93 := pm_F_nx rfl rfl rfl rfl
set_option maxRecDepth 100000 in
theorem i_s372 (ol : pm_O) (orc : pm_Q) : pm_F ol orc 77 17 [(0, .ref 39)] [] iH_93 = pm_F ol orc 77 18 [] [.ref 39] iH_93 := pm_F_nx rfl rfl rfl rfl
set_option maxRecDepth 100000 in
theorem i_s373 (ol : pm_O) (orc : pm_Q) : pm_F ol orc 77 18 [] [.ref 39] iH_93 = pm_F ol orc 77 19 [] [.int (4), .ref 39] iH_93 := pm_F_nx rfl rfl rfl rfl
set_option maxRecDepth 100000 in
theorem i_s374 (ol : pm_O) (orc : pm_Q) : pm_F ol orc 77 19 [] [.int (4), .ref 39] iH_93 = pm_F ol orc 77 21 [] [.ref 42, .ref 39] iH_94 := pm_F_nx rfl rfl rfl rfl
set_option maxRecDepth 100000 in
theorem i_s375 (ol : pm_O) (orc : pm_Q) : pm_F ol orc 77 21 [] [.ref 42, .ref 39] iH_94 = pm_F ol orc 77 24 [] [] iH_95 := pm_F_nx rfl rfl rfl rfl
set_option maxRecDepth 100000 in
theorem i_s376 (ol : pm_O) (orc : pm_Q) : pm_F ol orc 77 24 [] [] iH_95 = some (none, iH_95) := pm_F_rt rfl rfl rfl
set_option maxRecDepth 100000 in
theorem i_c21 (ol : pm_O) (orc : pm_Q) : pm_V ol orc 77 [.ref 39] iH_89 = some (none, iH_95) := (show pm_V ol orc 77 [.ref 39] iH_89 = pm_F ol orc 77 0 [(0, .ref 39)] [] iH_89 from (if_pos (r_le rfl)).trans (pm_F_live rfl)).trans ((i_s357 ol orc).trans ((i_s358 ol orc).trans ((i_s359 ol orc).trans ((i_s360 ol orc).trans ((i_s361 ol orc).trans ((i_s362 ol orc).trans ((i_s370 ol orc).trans ((i_s371 ol orc).trans ((i_s372 ol orc).trans ((i_s373 ol orc).trans ((i_s374 ol orc).trans ((i_s375 ol orc).trans (i_s376 ol orc)))))))))))))
set_option maxRecDepth 100000 in
theorem i_s377 (ol : pm_O) (orc : pm_Q) : pm_F ol orc 27 9 [(0, .ref 38), (1, .ref 1), (2, .ref 20), (3, .ref 33)] [.ref 39, .ref 39, .ref 38] iH_89 = pm_F ol orc 27 12 [(0, .ref 38), (1, .ref 1), (2, .ref 20), (3, .ref 33)] [.ref 39, .ref 38] iH_95 := (r_vc rfl rfl rfl rfl rfl rfl (r_le rfl) (r_le rfl) rfl).trans ((if_pos rfl).trans (by rw [i_c21]; rfl))
set_option maxRecDepth 100000 in
theorem i_s378 (ol : pm_O) (orc : pm_Q) : pm_F ol orc 27 12 [(0, .ref 38), (1, .ref 1), (2, .ref 20), (3, .ref 33)] [.ref 39, .ref 38] iH_95 = pm_F ol orc 27 15 [(0, .ref 38), (1, .ref 1), (2, .ref 20), (3, .ref 33)] [] iH_96 := pm_F_nx rfl rfl rfl rfl
set_option maxRecDepth 100000 in
theorem i_s379 (ol : pm_O) (orc : pm_Q) : pm_F ol orc 27 15 [(0, .ref 38), (1, .ref 1), (2, .ref 20), (3, .ref 33)] [] iH_96 = pm_F ol orc 27 16 [(0, .ref 38), (1, .ref 1), (2, .ref 20), (3, .ref 33)] [.ref 38] iH_96 := pm_F_nx rfl rfl rfl rfl
set_option maxRecDepth 100000 in
theorem i_s380 (ol : pm_O) (orc : pm_Q) : pm_F ol orc 27 16 [(0, .ref 38), (1, .ref 1), (2, .ref 20), (3, .ref 33)] [.ref 38] iH_96 = pm_F ol orc 27 18 [(0, .ref 38), (1, .ref 1), (2, .ref 20), (3, .ref 33)] [.int (49), .ref 38] iH_96 := pm_F_nx rfl rfl rfl rfl
set_option maxRecDepth 100000 in
theorem i_s381 (ol : pm_O) (orc : pm_Q) : pm_F ol orc 27 18 [(0, .ref 38), (1, .ref 1), (2, .ref 20), (3, .ref 33)] [.int (49), .ref 38] iH_96 = pm_F ol orc 27 20 [(0, .ref 38), (1, .ref 1), (2, .ref 20), (3, .ref 33)] [.ref 43, .ref 38] iH_97 := pm_F_nx rfl rfl rfl rfl
set_option maxRecDepth 100000 in
theorem i_s382 (ol : pm_O) (orc : pm_Q) : pm_F ol orc 27 20 [(0, .ref 38), (1, .ref 1), (2, .ref 20), (3, .ref 33)] [.ref 43, .ref 38] iH_97 = pm_F ol orc 27 23 [(0, .ref 38), (1, .ref 1), (2, .ref 20), (3, .ref 33)] [] iH_98 := pm_F_nx rfl rfl rfl rfl
set_option maxRecDepth 100000 in
theorem i_s383 (ol : pm_O) (orc : pm_Q) : pm_F ol orc 27 23 [(0, .ref 38), (1, .ref 1), (2, .ref 20), (3, .ref 33)] [] iH_98 = pm_F ol orc 27 24 [(0, .ref 38), (1, .ref 1), (2, .ref 20), (3, .ref 33)] [.ref 38] iH_98 := pm_F_nx rfl rfl rfl rfl
set_option maxRecDepth 100000 in
theorem i_s384 (ol : pm_O) (orc : pm_Q) : pm_F ol orc 27 24 [(0, .ref 38), (1, .ref 1), (2, .ref 20), (3, .ref 33)] [.ref 38] iH_98 = pm_F ol orc 27 26 [(0, .ref 38), (1, .ref 1), (2, .ref 20), (3, .ref 33)] [.int (49), .ref 38] iH_98 := pm_F_nx rfl rfl rfl rfl
set_option maxRecDepth 100000 in
theorem i_s385 (ol : pm_O) (orc : pm_Q) : pm_F ol orc 27 26 [(0, .ref 38), (1, .ref 1), (2, .ref 20), (3, .ref 33)] [.int (49), .ref 38] iH_98 = pm_F ol orc 27 28 [(0, .ref 38), (1, .ref 1), (2, .ref 20), (3, .ref 33)] [.ref 44, .ref 38] iH_99 := pm_F_nx rfl rfl rfl rfl
set_option maxRecDepth 100000 in
theorem i_s386 (ol : pm_O) (orc : pm_Q) : pm_F ol orc 27 28 [(0, .ref 38), (1, .ref 1), (2, .ref 20), (3, .ref 33)] [.ref 44, .ref 38] iH_99 = pm_F ol orc 27 31 [(0, .ref 38), (1, .ref 1), (2, .ref 20), (3, .ref 33)] [] iH_100 := pm_F_nx rfl rfl rfl rfl
set_option maxRecDepth 100000 in
theorem i_s387 (ol : pm_O) (orc : pm_Q) : pm_F ol orc 27 31 [(0, .ref 38), (1, .ref 1), (2, .ref 20), (3, .ref 33)] [] iH_100 = pm_F ol orc 27 32 [(0, .ref 38), (1, .ref 1), (2, .ref 20), (3, .ref 33)] [.ref 38] iH_100 := pm_F_nx rfl rfl rfl rfl
set_option maxRecDepth 100000 in
theorem i_s388 (ol : pm_O) (orc : pm_Q) : pm_F ol orc 27 32 [(0, .ref 38), (1, .ref 1), (2, .ref 20), (3, .ref 33)] [.ref 38] iH_100 = pm_F ol orc 27 33 [(0, .ref 38), (1, .ref 1), (2, .ref 20), (3, .ref 33)] [.ref 1, .ref 38] iH_100 := pm_F_nx rfl rfl rfl rfl
set_option maxRecDepth 100000 in
theorem i_s389 (ol : pm_O) (orc : pm_Q) : pm_F ol orc 27 33 [(0, .ref 38), (1, .ref 1), (2, .ref 20), (3, .ref 33)] [.ref 1, .ref 38] iH_100 = pm_F ol orc 27 36 [(0, .ref 38), (1, .ref 1), (2, .ref 20), (3, .ref 33)] [] iH_101 := pm_F_nx rfl rfl rfl rfl
set_option maxRecDepth 100000 in
theorem i_s390 (ol : pm_O) (orc : pm_Q) : pm_F ol orc 27 36 [(0, .ref 38), (1, .ref 1), (2, .ref 20), (3, .ref 33)] [] iH_101 = pm_F ol orc 27 37 [(0, .ref 38), (1, .ref 1), (2, .ref 20), (3, .ref 33)] [.ref 38] iH_101 := pm_F_nx rfl rfl rfl rfl
set_option maxRecDepth 100000 in
theorem i_s391 (ol : pm_O) (orc : pm_Q) : pm_F ol orc 27 37 [(0, .ref 38), (1, .ref 1), (2, .ref 20), (3, .ref 33)] [.ref 38] iH_101 = pm_F ol orc 27 38 [(0, .ref 38), (1, .ref 1), (3, .ref 33)] [.ref 20, .ref 38] iH_101 := pm_F_nx rfl rfl rfl rfl
set_option maxRecDepth 100000 in
theorem i_s392 (ol : pm_O) (orc : pm_Q) : pm_F ol orc 27 38 [(0, .ref 38), (1, .ref 1), (3, .ref 33)] [.ref 20, .ref 38] iH_101 = pm_F ol orc 27 41 [(0, .ref 38), (1, .ref 1), (3, .ref 33)] [] iH_102 := pm_F_nx rfl rfl rfl rfl
set_option maxRecDepth 100000 in
theorem i_s393 (ol : pm_O) (orc : pm_Q) : pm_F ol orc 27 41 [(0, .ref 38), (1, .ref 1), (3, .ref 33)] [] iH_102 = pm_F ol orc 27 42 [(0, .ref 38), (1, .ref 1), (3, .ref 33)] [.ref 38] iH_102 := pm_F_nx rfl rfl rfl rfl
set_option maxRecDepth 100000 in
theorem i_s394 (ol : pm_O) (orc : pm_Q) : pm_F ol orc 27 42 [(0, .ref 38), (1, .ref 1), (3, .ref 33)] [.ref 38] iH_102 = pm_F ol orc 27 43 [(0, .ref 38), (1, .ref 1)] [.ref 33, .ref 38] iH_102 := pm_F_nx rfl rfl rfl rfl
set_option maxRecDepth 100000 in
theorem i_s395 (ol : pm_O) (orc : pm_Q) : pm_F ol orc 27 43 [(0, .ref 38), (1, .ref 1)] [.ref 33, .ref 38] iH_102 = pm_F ol orc 27 46 [(0, .ref 38), (1, .ref 1)] [] iH_103 := pm_F_nx rfl rfl rfl rfl
set_option maxRecDepth 100000 in
theorem i_s396 (ol : pm_O) (orc : pm_Q) : pm_F ol orc 27 46 [(0, .ref 38), (1, .ref 1)] [] iH_103 = pm_F ol orc 27 47 [(1, .ref 1)] [.ref 38] iH_103 := pm_F_nx rfl rfl rfl rfl
set_option maxRecDepth 100000 in
theorem i_s397 (ol : pm_O) (orc : pm_Q) : pm_F ol orc 27 47 [(1, .ref 1)] [.ref 38] iH_103 = pm_F ol orc 27 50 [(1, .ref 1)] [.ref 45, .ref 38] iH_104 := pm_F_nx rfl rfl rfl rfl
set_option maxRecDepth 100000 in
theorem i_s398 (ol : pm_O) (orc : pm_Q) : pm_F ol orc 27 50 [(1, .ref 1)] [.ref 45, .ref 38] iH_104 = pm_F ol orc 27 51 [(1, .ref 1)] [.ref 45, .ref 45, .ref 38] iH_104 := pm_F_nx rfl rfl rfl rfl
set_option maxRecDepth 100000 in
theorem i_s399 (ol : pm_O) (orc : pm_Q) : pm_F ol orc 27 51 [(1, .ref 1)] [.ref 45, .ref 45, .ref 38] iH_104 = pm_F ol orc 27 52 [] [.ref 1, .ref 45, .ref 45, .ref 38] iH_104 := pm_F_nx rfl rfl rfl rfl
set_option maxRecDepth 100000 in
theorem i_s400 (ol : pm_O) (orc : pm_Q) : pm_F ol orc 46 0 [(0, .ref 45), (1, .ref 1)] [] iH_104 = pm_F ol orc 46 1 [(0, .ref 45), (1, .ref 1)] [.ref 45] iH_104 := pm_F_nx rfl rfl rfl rfl
set_option maxRecDepth 100000 in
theorem i_s401 (ol : pm_O) (orc : pm_Q) : pm_F ol orc 46 1 [(0, .ref 45), (1, .ref 1)] [.ref 45] iH_104 = pm_F ol orc 46 4 [(0, .ref 45), (1, .ref 1)] [] iH_104 := pm_F_nx rfl rfl rfl rfl
set_option maxRecDepth 100000 in
theorem i_s402 (ol : pm_O) (orc : pm_Q) : pm_F ol orc 46 4 [(0, .ref 45), (1, .ref 1)] [] iH_104 = pm_F ol orc 46 5 [(0, .ref 45), (1, .ref 1)] [.ref 45] iH_104 := pm_F_nx rfl rfl rfl rfl
set_option maxRecDepth 100000 in
theorem i_s403 (ol : pm_O) (orc : pm_Q) : pm_F ol orc 46 5 [(0, .ref 45), (1, .ref 1)] [.ref 45] iH_104 = pm_F ol orc 46 8 [(0, .ref 45), (1, .ref 1)] [.int (441), .ref 45] iH_104 := pm_F_nx rfl rfl rfl rfl
set_option maxRecDepth 100000 in
theorem i_s404 (ol : pm_O) (orc : pm_Q) : pm_F ol orc 46 8 [(0, .ref 45), (1, .ref 1)] [.int (441), .ref 45] iH_104 = pm_F ol orc 46 10 [(0, .ref 45), (1, .ref 1)] [.ref 46, .ref 45] iH_105 := pm_F_nx rfl rfl rfl rfl
set_option maxRecDepth 100000 in
theorem i_s405 (ol : pm_O) (orc : pm_Q) : pm_F ol orc 46 10 [(0, .ref 45), (1, .ref 1)] [.ref 46, .ref 45] iH_105 = pm_F ol orc 46 13 [(0, .ref 45), (1, .ref 1)] [] iH_106 := pm_F_nx rfl rfl rfl rfl
set_option maxRecDepth 100000 in
theorem i_s406 (ol : pm_O) (orc : pm_Q) : pm_F ol orc 46 13 [(0, .ref 45), (1, .ref 1)] [] iH_106 = pm_F ol orc 46 14 [(0, .ref 45), (1, .ref 1)] [.ref 45] iH_106 := pm_F_nx rfl rfl rfl rfl
set_option maxRecDepth 100000 in
theorem i_s407 (ol : pm_O) (orc : pm_Q) : pm_F ol orc 46 14 [(0, .ref 45), (1, .ref 1)] [.ref 45] iH_106 = pm_F ol orc 46 16 [(0, .ref 45), (1, .ref 1)] [.int (49), .ref 45] iH_106 := pm_F_nx rfl rfl rfl rfl
set_option maxRecDepth 100000 in
theorem i_s408 (ol : pm_O) (orc : pm_Q) : pm_F ol orc 46 16 [(0, .ref 45), (1, .ref 1)] [.int (49), .ref 45] iH_106 = pm_F ol orc 46 18 [(0, .ref 45), (1, .ref 1)] [.ref 47, .ref 45] iH_107 := pm_F_nx rfl rfl rfl rfl
set_option maxRecDepth 100000 in
theorem i_s409 (ol : pm_O) (orc : pm_Q) : pm_F ol orc 46 18 [(0, .ref 45), (1, .ref 1)] [.ref 47, .ref 45] iH_107 = pm_F ol orc 46 21 [(0, .ref 45), (1, .ref 1)] [] iH_108 := pm_F_nx rfl rfl rfl rfl
set_option maxRecDepth 100000 in
theorem i_s410 (ol : pm_O) (orc : pm_Q) : pm_F ol orc 46 21 [(0, .ref 45), (1, .ref 1)] [] iH_108 = pm_F ol orc 46 22 [(0, .ref 45), (1, .ref 1)] [.ref 45] iH_108 := pm_F_nx rfl rfl rfl rfl
set_option maxRecDepth 100000 in
theorem i_s411 (ol : pm_O) (orc : pm_Q) : pm_F ol orc 46 22 [(0, .ref 45), (1, .ref 1)] [.ref 45] iH_108 = pm_F ol orc 46 23 [(0, .ref 45)] [.ref 1, .ref 45] iH_108 := pm_F_nx rfl rfl rfl rfl
set_option maxRecDepth 100000 in
theorem i_s412 (ol : pm_O) (orc : pm_Q) : pm_F ol orc 46 23 [(0, .ref 45)] [.ref 1, .ref 45] iH_108 = pm_F ol orc 46 26 [(0, .ref 45)] [] iH_109 := pm_F_nx rfl rfl rfl rfl
set_option maxRecDepth 100000 in
theorem i_s413 (ol : pm_O) (orc : pm_Q) : pm_F ol orc 46 26 [(0, .ref 45)] [] iH_109 = pm_F ol orc 46 27 [] [.ref 45] iH_109 := pm_F_nx rfl rfl rfl rfl
set_option maxRecDepth 100000 in
theorem i_s414 (ol : pm_O) (orc : pm_Q) : pm_F ol orc 46 27 [] [.ref 45] iH_109 = pm_F ol orc 46 30 [] [.ref 47] iH_109 := pm_F_nx rfl rfl rfl rfl
set_option maxRecDepth 100000 in
theorem i_s415 (ol : pm_O) (orc : pm_Q) : pm_F ol orc 46 30 [] [.ref 47] iH_109 = pm_F ol orc 46 31 [] [.int (-1), .ref 47] iH_109 := pm_F_nx rfl rfl rfl rfl
set_option maxRecDepth 100000 in
theorem i_c22 (ol : pm_O) (orc : pm_Q) : pm_V ol orc 167 [.ref 47, .int (-1)] iH_109 = some (none, iH_110) := fillG ol orc (a := 47) (n := 49) (-1) (by decide) (by decide) rfl
set_option maxRecDepth 100000 in
theorem i_s416 (ol : pm_O) (orc : pm_Q) : pm_F ol orc 46 31 [] [.int (-1), .ref 47] iH_109 = pm_F ol orc 46 34 [] [] iH_110 := (r_sc rfl rfl rfl rfl (r_le rfl) (Or.inr (r_le rfl)) rfl).trans (by rw [i_c22]; rfl)
set_option maxRecDepth 100000 in
theorem i_s417 (ol : pm_O) (orc : pm_Q) : pm_F ol orc 46 34 [] [] iH_110 = some (none, iH_110) := pm_F_rt rfl rfl rfl
set_option maxRecDepth 100000 in
theorem i_c23 (ol : pm_O) (orc : pm_Q) : pm_V ol orc 46 [.ref 45, .ref 1] iH_104 = some (none, iH_110) := (show pm_V ol orc 46 [.ref 45, .ref 1] iH_104 = pm_F ol orc 46 0 [(0, .ref 45), (1, .ref 1)] [] iH_104 from (if_pos (r_le rfl)).trans (pm_F_live rfl)).trans ((i_s400 ol orc).trans ((i_s401 ol orc).trans ((i_s402 ol orc).trans ((i_s403 ol orc).trans ((i_s404 ol orc).trans ((i_s405 ol orc).trans ((i_s406 ol orc).trans ((i_s407 ol orc).trans ((i_s408 ol orc).trans ((i_s409 ol orc).trans ((i_s410 ol orc).trans ((i_s411 ol orc).trans ((i_s412 ol orc).trans ((i_s413 ol orc).trans ((i_s414 ol orc).trans ((i_s415 ol orc).trans ((i_s416 ol orc).trans (i_s417 ol orc))))))))))))))))))
set_option maxRecDepth 100000 in
theorem i_s418 (ol : pm_O) (orc : pm_Q) : pm_F ol orc 27 52 [] [.ref 1, .ref 45, .ref 45, .ref 38] iH_104 = pm_F ol orc 27 55 [] [.ref 45, .ref 38] iH_110 := (r_vc rfl rfl rfl rfl rfl rfl (r_le rfl) (r_le rfl) rfl).trans ((if_pos rfl).trans (by rw [i_c23]; rfl))
set_option maxRecDepth 100000 in
theorem i_s419 (ol : pm_O) (orc : pm_Q) : pm_F ol orc 27 55 [] [.ref 45, .ref 38] iH_110 = pm_F ol orc 27 58 [] [] iH_111 := pm_F_nx rfl rfl rfl rfl
set_option maxRecDepth 100000 in
theorem i_s420 (ol : pm_O) (orc : pm_Q) : pm_F ol orc 27 58 [] [] iH_111 = some (none, iH_111) := pm_F_rt rfl rfl rfl
set_option maxRecDepth 100000 in
theorem i_c24 (ol : pm_O) (orc : pm_Q) : pm_V ol orc 27 [.ref 38, .ref 1, .ref 20, .ref 33] iH_88 = some (none, iH_111) := (show pm_V ol orc 27 [.ref 38, .ref 1, .ref 20, .ref 33] iH_88 = pm_F ol orc 27 0 [(0, .ref 38), (1, .ref 1), (2, .ref 20), (3, .ref 33)] [] iH_88 from (if_pos (r_le rfl)).trans (pm_F_live rfl)).trans ((i_s352 ol orc).trans ((i_s353 ol orc).trans ((i_s354 ol orc).trans ((i_s355 ol orc).trans ((i_s356 ol orc).trans ((i_s377 ol orc).trans ((i_s378 ol orc).trans ((i_s379 ol orc).trans ((i_s380 ol orc).trans ((i_s381 ol orc).trans ((i_s382 ol orc).trans ((i_s383 ol orc).trans ((i_s384 ol orc).trans ((i_s385 ol orc).trans ((i_s386 ol orc).trans ((i_s387 ol orc).trans ((i_s388 ol orc).trans ((i_s389 ol orc).trans ((i_s390 ol orc).trans ((i_s391 ol orc).trans ((i_s392 ol orc).trans ((i_s393 ol orc).trans ((i_s394 ol orc).trans ((i_s395 ol orc).trans ((i_s396 ol orc).trans ((i_s397 ol orc).trans ((i_s398 ol orc).trans ((i_s399 ol orc).trans ((i_s418 ol orc).trans ((i_s419 ol orc).trans (i_s420 ol orc)))))))))))))))))))))))))))))))
set_option maxRecDepth 100000 in
theorem i_s421 (ol : pm_O) (orc : pm_Q) : pm_F ol orc 98 123 [] [.ref 33, .ref 20, .ref 1, .ref 38, .ref 38, .ref 0] iH_88 = pm_F ol orc 98 126 [] [.ref 38, .ref 0] iH_111 := (r_vc rfl rfl rfl rfl rfl rfl (r_le rfl) (r_le rfl) rfl).trans ((if_pos rfl).trans (by rw [i_c24]; rfl))
set_option maxRecDepth 100000 in
theorem i_s422 (ol : pm_O) (orc : pm_Q) : pm_F ol orc 98 126 [] [.ref 38, .ref 0] iH_111 = pm_F ol orc 98 129 [] [] iH_112 := pm_F_nx rfl rfl rfl rfl
set_option maxRecDepth 100000 in
theorem i_s423 (ol : pm_O) (orc : pm_Q) : pm_F ol orc 98 129 [] [] iH_112 = some (none, iH_112) := pm_F_rt rfl rfl rfl
set_option maxRecDepth 100000 in
theorem i_c25 (ol : pm_O) (orc : pm_Q) : pm_V ol orc 98 [.ref 0] iH_1 = some (none, iH_112) := (show pm_V ol orc 98 [.ref 0] iH_1 = pm_F ol orc 98 0 [(0, .ref 0)] [] iH_1 from (if_pos (r_le rfl)).trans (pm_F_live rfl)).trans ((i_s3 ol orc).trans ((i_s4 ol orc).trans ((i_s5 ol orc).trans ((i_s6 ol orc).trans ((i_s7 ol orc).trans ((i_s162 ol orc).trans ((i_s163 ol orc).trans ((i_s164 ol orc).trans ((i_s165 ol orc).trans ((i_s166 ol orc).trans ((i_s187 ol orc).trans ((i_s188 ol orc).trans ((i_s189 ol orc).trans ((i_s190 ol orc).trans ((i_s191 ol orc).trans ((i_s192 ol orc).trans ((i_s200 ol orc).trans ((i_s201 ol orc).trans ((i_s202 ol orc).trans ((i_s203 ol orc).trans ((i_s204 ol orc).trans ((i_s224 ol orc).trans ((i_s225 ol orc).trans ((i_s226 ol orc).trans ((i_s227 ol orc).trans ((i_s228 ol orc).trans ((i_s229 ol orc).trans ((i_s230 ol orc).trans ((i_s231 ol orc).trans ((i_s281 ol orc).trans ((i_s282 ol orc).trans ((i_s283 ol orc).trans ((i_s284 ol orc).trans ((i_s285 ol orc).trans ((i_s286 ol orc).trans ((i_s287 ol orc).trans ((i_s288 ol orc).trans ((i_s314 ol orc).trans ((i_s315 ol orc).trans ((i_s316 ol orc).trans ((i_s317 ol orc).trans ((i_s318 ol orc).trans ((i_s319 ol orc).trans ((i_s320 ol orc).trans ((i_s321 ol orc).trans ((i_s322 ol orc).trans ((i_s323 ol orc).trans ((i_s324 ol orc).trans ((i_s325 ol orc).trans ((i_s326 ol orc).trans ((i_s342 ol orc).trans ((i_s343 ol orc).trans ((i_s344 ol orc).trans ((i_s345 ol orc).trans ((i_s346 ol orc).trans ((i_s347 ol orc).trans ((i_s348 ol orc).trans ((i_s349 ol orc).trans ((i_s350 ol orc).trans ((i_s351 ol orc).trans ((i_s421 ol orc).trans ((i_s422 ol orc).trans (i_s423 ol orc)))))))))))))))))))))))))))))))))))))))))))))))))))))))))))))))
set_option maxRecDepth 100000 in
theorem i_s424 (ol : pm_O) (orc : pm_Q) : pm_F ol orc 168 4 [(0, .ref 1000)] [.ref 0, .ref 0] iH_1 = pm_F ol orc 168 7 [(0, .ref 1000)] [.ref 0] iH_112 := (r_vc rfl rfl rfl rfl rfl rfl (r_le rfl) (r_le rfl) rfl).trans ((if_pos rfl).trans (by rw [i_c25]; rfl))
set_option maxRecDepth 100000 in
theorem i_s425 (ol : pm_O) (orc : pm_Q) : pm_F ol orc 168 7 [(0, .ref 1000)] [.ref 0] iH_112 = pm_F ol orc 168 8 [(0, .ref 1000), (1, .ref 0)] [] iH_112 := pm_F_nx rfl rfl rfl rfl
set_option maxRecDepth 100000 in
theorem i_s426 (ol : pm_O) (orc : pm_Q) : pm_F ol orc 168 8 [(0, .ref 1000), (1, .ref 0)] [] iH_112 = pm_F ol orc 168 11 [(0, .ref 1000), (1, .ref 0)] [.ref 48] iH_113 := pm_F_nx rfl rfl rfl rfl
set_option maxRecDepth 100000 in
theorem i_s427 (ol : pm_O) (orc : pm_Q) : pm_F ol orc 168 11 [(0, .ref 1000), (1, .ref 0)] [.ref 48] iH_113 = pm_F ol orc 168 12 [(0, .ref 1000), (1, .ref 0)] [.ref 48, .ref 48] iH_113 := pm_F_nx rfl rfl rfl rfl
set_option maxRecDepth 100000 in
theorem i_s428 (ol : pm_O) (orc : pm_Q) : pm_F ol orc 111 0 [(0, .ref 48)] [] iH_113 = pm_F ol orc 111 1 [(0, .ref 48)] [.ref 48] iH_113 := pm_F_nx rfl rfl rfl rfl
set_option maxRecDepth 100000 in
theorem i_s429 (ol : pm_O) (orc : pm_Q) : pm_F ol orc 111 1 [(0, .ref 48)] [.ref 48] iH_113 = pm_F ol orc 111 4 [(0, .ref 48)] [] iH_113 := pm_F_nx rfl rfl rfl rfl
set_option maxRecDepth 100000 in
theorem i_s430 (ol : pm_O) (orc : pm_Q) : pm_F ol orc 111 4 [(0, .ref 48)] [] iH_113 = pm_F ol orc 111 5 [(0, .ref 48)] [.ref 48] iH_113 := pm_F_nx rfl rfl rfl rfl
set_option maxRecDepth 100000 in
theorem i_s431 (ol : pm_O) (orc : pm_Q) : pm_F ol orc 111 5 [(0, .ref 48)] [.ref 48] iH_113 = pm_F ol orc 111 7 [(0, .ref 48)] [.int (8), .ref 48] iH_113 := pm_F_nx rfl rfl rfl rfl
set_option maxRecDepth 100000 in
theorem i_s432 (ol : pm_O) (orc : pm_Q) : pm_F ol orc 111 7 [(0, .ref 48)] [.int (8), .ref 48] iH_113 = pm_F ol orc 111 9 [(0, .ref 48)] [.ref 49, .ref 48] iH_114 := pm_F_nx rfl rfl rfl rfl
set_option maxRecDepth 100000 in
theorem i_s433 (ol : pm_O) (orc : pm_Q) : pm_F ol orc 111 9 [(0, .ref 48)] [.ref 49, .ref 48] iH_114 = pm_F ol orc 111 12 [(0, .ref 48)] [] iH_115 := pm_F_nx rfl rfl rfl rfl
set_option maxRecDepth 100000 in
theorem i_s434 (ol : pm_O) (orc : pm_Q) : pm_F ol orc 111 12 [(0, .ref 48)] [] iH_115 = pm_F ol orc 111 13 [(0, .ref 48)] [.ref 48] iH_115 := pm_F_nx rfl rfl rfl rfl
set_option maxRecDepth 100000 in
theorem i_s435 (ol : pm_O) (orc : pm_Q) : pm_F ol orc 111 13 [(0, .ref 48)] [.ref 48] iH_115 = pm_F ol orc 111 15 [(0, .ref 48)] [.int (6), .ref 48] iH_115 := pm_F_nx rfl rfl rfl rfl
set_option maxRecDepth 100000 in
theorem i_s436 (ol : pm_O) (orc : pm_Q) : pm_F ol orc 111 15 [(0, .ref 48)] [.int (6), .ref 48] iH_115 = pm_F ol orc 111 17 [(0, .ref 48)] [.ref 50, .ref 48] iH_116 := pm_F_nx rfl rfl rfl rfl
set_option maxRecDepth 100000 in
theorem i_s437 (ol : pm_O) (orc : pm_Q) : pm_F ol orc 111 17 [(0, .ref 48)] [.ref 50, .ref 48] iH_116 = pm_F ol orc 111 20 [(0, .ref 48)] [] iH_117 := pm_F_nx rfl rfl rfl rfl
set_option maxRecDepth 100000 in
theorem i_s438 (ol : pm_O) (orc : pm_Q) : pm_F ol orc 111 20 [(0, .ref 48)] [] iH_117 = pm_F ol orc 111 21 [(0, .ref 48)] [.ref 48] iH_117 := pm_F_nx rfl rfl rfl rfl
set_option maxRecDepth 100000 in
theorem i_s439 (ol : pm_O) (orc : pm_Q) : pm_F ol orc 111 21 [(0, .ref 48)] [.ref 48] iH_117 = pm_F ol orc 111 23 [(0, .ref 48)] [.int (6), .ref 48] iH_117 := pm_F_nx rfl rfl rfl rfl
set_option maxRecDepth 100000 in
theorem i_s440 (ol : pm_O) (orc : pm_Q) : pm_F ol orc 111 23 [(0, .ref 48)] [.int (6), .ref 48] iH_117 = pm_F ol orc 111 25 [(0, .ref 48)] [.ref 51, .ref 48] iH_118 := pm_F_nx rfl rfl rfl rfl
set_option maxRecDepth 100000 in
theorem i_s441 (ol : pm_O) (orc : pm_Q) : pm_F ol orc 111 25 [(0, .ref 48)] [.ref 51, .ref 48] iH_118 = pm_F ol orc 111 28 [(0, .ref 48)] [] iH_119 := pm_F_nx rfl rfl rfl rfl
set_option maxRecDepth 100000 in
theorem i_s442 (ol : pm_O) (orc : pm_Q) : pm_F ol orc 111 28 [(0, .ref 48)] [] iH_119 = pm_F ol orc 111 29 [(0, .ref 48)] [.ref 48] iH_119 := pm_F_nx rfl rfl rfl rfl
set_option maxRecDepth 100000 in
theorem i_s443 (ol : pm_O) (orc : pm_Q) : pm_F ol orc 111 29 [(0, .ref 48)] [.ref 48] iH_119 = pm_F ol orc 111 31 [(0, .ref 48)] [.int (18), .ref 48] iH_119 := pm_F_nx rfl rfl rfl rfl
set_option maxRecDepth 100000 in
theorem i_s444 (ol : pm_O) (orc : pm_Q) : pm_F ol orc 111 31 [(0, .ref 48)] [.int (18), .ref 48] iH_119 = pm_F ol orc 111 33 [(0, .ref 48)] [.ref 52, .ref 48] iH_120 := pm_F_nx rfl rfl rfl rfl
set_option maxRecDepth 100000 in
theorem i_s445 (ol : pm_O) (orc : pm_Q) : pm_F ol orc 111 33 [(0, .ref 48)] [.ref 52, .ref 48] iH_120 = pm_F ol orc 111 36 [(0, .ref 48)] [] iH_121 := pm_F_nx rfl rfl rfl rfl
set_option maxRecDepth 100000 in
theorem i_s446 (ol : pm_O) (orc : pm_Q) : pm_F ol orc 111 36 [(0, .ref 48)] [] iH_121 = pm_F ol orc 111 37 [(0, .ref 48)] [.ref 48] iH_121 := pm_F_nx rfl rfl rfl rfl
set_option maxRecDepth 100000 in
theorem i_s447 (ol : pm_O) (orc : pm_Q) : pm_F ol orc 111 37 [(0, .ref 48)] [.ref 48] iH_121 = pm_F ol orc 111 39 [(0, .ref 48)] [.int (6), .ref 48] iH_121 := pm_F_nx rfl rfl rfl rfl
set_option maxRecDepth 100000 in
theorem i_s448 (ol : pm_O) (orc : pm_Q) : pm_F ol orc 111 39 [(0, .ref 48)] [.int (6), .ref 48] iH_121 = pm_F ol orc 111 41 [(0, .ref 48)] [.ref 53, .ref 48] iH_122 := pm_F_nx rfl rfl rfl rfl
set_option maxRecDepth 100000 in
theorem i_s449 (ol : pm_O) (orc : pm_Q) : pm_F ol orc 111 41 [(0, .ref 48)] [.ref 53, .ref 48] iH_122 = pm_F ol orc 111 44 [(0, .ref 48)] [] iH_123 := pm_F_nx rfl rfl rfl rfl
set_option maxRecDepth 100000 in
theorem i_s450 (ol : pm_O) (orc : pm_Q) : pm_F ol orc 111 44 [(0, .ref 48)] [] iH_123 = pm_F ol orc 111 45 [(0, .ref 48)] [.ref 48] iH_123 := pm_F_nx rfl rfl rfl rfl
set_option maxRecDepth 100000 in
theorem i_s451 (ol : pm_O) (orc : pm_Q) : pm_F ol orc 111 45 [(0, .ref 48)] [.ref 48] iH_123 = pm_F ol orc 111 47 [(0, .ref 48)] [.int (6), .ref 48] iH_123 := pm_F_nx rfl rfl rfl rfl
set_option maxRecDepth 100000 in
theorem i_s452 (ol : pm_O) (orc : pm_Q) : pm_F ol orc 111 47 [(0, .ref 48)] [.int (6), .ref 48] iH_123 = pm_F ol orc 111 49 [(0, .ref 48)] [.ref 54, .ref 48] iH_124 := pm_F_nx rfl rfl rfl rfl
set_option maxRecDepth 100000 in
theorem i_s453 (ol : pm_O) (orc : pm_Q) : pm_F ol orc 111 49 [(0, .ref 48)] [.ref 54, .ref 48] iH_124 = pm_F ol orc 111 52 [(0, .ref 48)] [] iH_125 := pm_F_nx rfl rfl rfl rfl
set_option maxRecDepth 100000 in
theorem i_s454 (ol : pm_O) (orc : pm_Q) : pm_F ol orc 111 52 [(0, .ref 48)] [] iH_125 = pm_F ol orc 111 53 [(0, .ref 48)] [.ref 48] iH_125 := pm_F_nx rfl rfl rfl rfl
set_option maxRecDepth 100000 in
theorem i_s455 (ol : pm_O) (orc : pm_Q) : pm_F ol orc 111 53 [(0, .ref 48)] [.ref 48] iH_125 = pm_F ol orc 111 54 [(0, .ref 48)] [.int (4), .ref 48] iH_125 := pm_F_nx rfl rfl rfl rfl
set_option maxRecDepth 100000 in
theorem i_s456 (ol : pm_O) (orc : pm_Q) : pm_F ol orc 111 54 [(0, .ref 48)] [.int (4), .ref 48] iH_125 = pm_F ol orc 111 56 [(0, .ref 48)] [.ref 55, .ref 48] iH_126 := pm_F_nx rfl rfl rfl rfl
set_option maxRecDepth 100000 in
theorem i_s457 (ol : pm_O) (orc : pm_Q) : pm_F ol orc 111 56 [(0, .ref 48)] [.ref 55, .ref 48] iH_126 = pm_F ol orc 111 59 [(0, .ref 48)] [] iH_127 := pm_F_nx rfl rfl rfl rfl
set_option maxRecDepth 100000 in
theorem i_s458 (ol : pm_O) (orc : pm_Q) : pm_F ol orc 111 59 [(0, .ref 48)] [] iH_127 = pm_F ol orc 111 60 [(0, .ref 48)] [.ref 48] iH_127 := pm_F_nx rfl rfl rfl rfl
set_option maxRecDepth 100000 in
theorem i_s459 (ol : pm_O) (orc : pm_Q) : pm_F ol orc 111 60 [(0, .ref 48)] [.ref 48] iH_127 = pm_F ol orc 111 62 [(0, .ref 48)] [.int (48), .ref 48] iH_127 := pm_F_nx rfl rfl rfl rfl
set_option maxRecDepth 100000 in
theorem i_s460 (ol : pm_O) (orc : pm_Q) : pm_F ol orc 111 62 [(0, .ref 48)] [.int (48), .ref 48] iH_127 = pm_F ol orc 111 64 [(0, .ref 48)] [.ref 56, .ref 48] iH_128 := pm_F_nx rfl rfl rfl rfl
set_option maxRecDepth 100000 in
theorem i_s461 (ol : pm_O) (orc : pm_Q) : pm_F ol orc 111 64 [(0, .ref 48)] [.ref 56, .ref 48] iH_128 = pm_F ol orc 111 67 [(0, .ref 48)] [] iH_129 := pm_F_nx rfl rfl rfl rfl
set_option maxRecDepth 100000 in
theorem i_s462 (ol : pm_O) (orc : pm_Q) : pm_F ol orc 111 67 [(0, .ref 48)] [] iH_129 = pm_F ol orc 111 68 [(0, .ref 48)] [.ref 48] iH_129 := pm_F_nx rfl rfl rfl rfl
set_option maxRecDepth 100000 in
theorem i_s463 (ol : pm_O) (orc : pm_Q) : pm_F ol orc 111 68 [(0, .ref 48)] [.ref 48] iH_129 = pm_F ol orc 111 70 [(0, .ref 48)] [.int (120), .ref 48] iH_129 := pm_F_nx rfl rfl rfl rfl
set_option maxRecDepth 100000 in
theorem i_s464 (ol : pm_O) (orc : pm_Q) : pm_F ol orc 111 70 [(0, .ref 48)] [.int (120), .ref 48] iH_129 = pm_F ol orc 111 72 [(0, .ref 48)] [.ref 57, .ref 48] iH_130 := pm_F_nx rfl rfl rfl rfl
set_option maxRecDepth 100000 in
theorem i_s465 (ol : pm_O) (orc : pm_Q) : pm_F ol orc 111 72 [(0, .ref 48)] [.ref 57, .ref 48] iH_130 = pm_F ol orc 111 75 [(0, .ref 48)] [] iH_131 := pm_F_nx rfl rfl rfl rfl
set_option maxRecDepth 100000 in
theorem i_s466 (ol : pm_O) (orc : pm_Q) : pm_F ol orc 111 75 [(0, .ref 48)] [] iH_131 = pm_F ol orc 111 76 [(0, .ref 48)] [.ref 48] iH_131 := pm_F_nx rfl rfl rfl rfl
set_option maxRecDepth 100000 in
theorem i_s467 (ol : pm_O) (orc : pm_Q) : pm_F ol orc 111 76 [(0, .ref 48)] [.ref 48] iH_131 = pm_F ol orc 111 77 [(0, .ref 48)] [.int (1), .ref 48] iH_131 := pm_F_nx rfl rfl rfl rfl
set_option maxRecDepth 100000 in
theorem i_s468 (ol : pm_O) (orc : pm_Q) : pm_F ol orc 111 77 [(0, .ref 48)] [.int (1), .ref 48] iH_131 = pm_F ol orc 111 80 [(0, .ref 48)] [] iH_132 := pm_F_nx rfl rfl rfl rfl
set_option maxRecDepth 100000 in
theorem i_s469 (ol : pm_O) (orc : pm_Q) : pm_F ol orc 111 80 [(0, .ref 48)] [] iH_132 = pm_F ol orc 111 81 [(0, .ref 48)] [.ref 48] iH_132 := pm_F_nx rfl rfl rfl rfl
set_option maxRecDepth 100000 in
theorem i_s470 (ol : pm_O) (orc : pm_Q) : pm_F ol orc 111 81 [(0, .ref 48)] [.ref 48] iH_132 = pm_F ol orc 111 83 [(0, .ref 48)] [.int (48), .ref 48] iH_132 := pm_F_nx rfl rfl rfl rfl
set_option maxRecDepth 100000 in
theorem i_s471 (ol : pm_O) (orc : pm_Q) : pm_F ol orc 111 83 [(0, .ref 48)] [.int (48), .ref 48] iH_132 = pm_F ol orc 111 85 [(0, .ref 48)] [.ref 58, .ref 48] iH_133 := pm_F_nx rfl rfl rfl rfl
set_option maxRecDepth 100000 in
theorem i_s472 (ol : pm_O) (orc : pm_Q) : pm_F ol orc 111 85 [(0, .ref 48)] [.ref 58, .ref 48] iH_133 = pm_F ol orc 111 88 [(0, .ref 48)] [] iH_134 := pm_F_nx rfl rfl rfl rfl
set_option maxRecDepth 100000 in
theorem i_s473 (ol : pm_O) (orc : pm_Q) : pm_F ol orc 111 88 [(0, .ref 48)] [] iH_134 = pm_F ol orc 111 89 [(0, .ref 48)] [.ref 48] iH_134 := pm_F_nx rfl rfl rfl rfl
set_option maxRecDepth 100000 in
theorem i_s474 (ol : pm_O) (orc : pm_Q) : pm_F ol orc 111 89 [(0, .ref 48)] [.ref 48] iH_134 = pm_F ol orc 111 91 [(0, .ref 48)] [.int (48), .ref 48] iH_134 := pm_F_nx rfl rfl rfl rfl
set_option maxRecDepth 100000 in
theorem i_s475 (ol : pm_O) (orc : pm_Q) : pm_F ol orc 111 91 [(0, .ref 48)] [.int (48), .ref 48] iH_134 = pm_F ol orc 111 93 [(0, .ref 48)] [.ref 59, .ref 48] iH_135 := pm_F_nx rfl rfl rfl rfl
set_option maxRecDepth 100000 in
theorem i_s476 (ol : pm_O) (orc : pm_Q) : pm_F ol orc 111 93 [(0, .ref 48)] [.ref 59, .ref 48] iH_135 = pm_F ol orc 111 96 [(0, .ref 48)] [] iH_136 := pm_F_nx rfl rfl rfl rfl
set_option maxRecDepth 100000 in
theorem i_s477 (ol : pm_O) (orc : pm_Q) : pm_F ol orc 111 96 [(0, .ref 48)] [] iH_136 = pm_F ol orc 111 97 [(0, .ref 48)] [.ref 48] iH_136 := pm_F_nx rfl rfl rfl rfl
set_option maxRecDepth 100000 in
theorem i_s478 (ol : pm_O) (orc : pm_Q) : pm_F ol orc 111 97 [(0, .ref 48)] [.ref 48] iH_136 = pm_F ol orc 111 100 [(0, .ref 48)] [.int (480), .ref 48] iH_136 := pm_F_nx rfl rfl rfl rfl
set_option maxRecDepth 100000 in
theorem i_s479 (ol : pm_O) (orc : pm_Q) : pm_F ol orc 111 100 [(0, .ref 48)] [.int (480), .ref 48] iH_136 = pm_F ol orc 111 102 [(0, .ref 48)] [.ref 60, .ref 48] iH_137 := pm_F_nx rfl rfl rfl rfl
set_option maxRecDepth 100000 in
theorem i_s480 (ol : pm_O) (orc : pm_Q) : pm_F ol orc 111 102 [(0, .ref 48)] [.ref 60, .ref 48] iH_137 = pm_F ol orc 111 105 [(0, .ref 48)] [] iH_138 := pm_F_nx rfl rfl rfl rfl
set_option maxRecDepth 100000 in
theorem i_s481 (ol : pm_O) (orc : pm_Q) : pm_F ol orc 111 105 [(0, .ref 48)] [] iH_138 = pm_F ol orc 111 106 [(0, .ref 48)] [.ref 48] iH_138 := pm_F_nx rfl rfl rfl rfl
set_option maxRecDepth 100000 in
theorem i_s482 (ol : pm_O) (orc : pm_Q) : pm_F ol orc 111 106 [(0, .ref 48)] [.ref 48] iH_138 = pm_F ol orc 111 108 [(0, .ref 48)] [.int (10), .ref 48] iH_138 := pm_F_nx rfl rfl rfl rfl
set_option maxRecDepth 100000 in
theorem i_s483 (ol : pm_O) (orc : pm_Q) : pm_F ol orc 111 108 [(0, .ref 48)] [.int (10), .ref 48] iH_138 = pm_F ol orc 111 110 [(0, .ref 48)] [.ref 61, .ref 48] iH_139 := pm_F_nx rfl rfl rfl rfl
set_option maxRecDepth 100000 in
theorem i_s484 (ol : pm_O) (orc : pm_Q) : pm_F ol orc 111 110 [(0, .ref 48)] [.ref 61, .ref 48] iH_139 = pm_F ol orc 111 113 [(0, .ref 48)] [] iH_140 := pm_F_nx rfl rfl rfl rfl
set_option maxRecDepth 100000 in
theorem i_s485 (ol : pm_O) (orc : pm_Q) : pm_F ol orc 111 113 [(0, .ref 48)] [] iH_140 = pm_F ol orc 111 114 [(0, .ref 48)] [.ref 48] iH_140 := pm_F_nx rfl rfl rfl rfl
set_option maxRecDepth 100000 in
theorem i_s486 (ol : pm_O) (orc : pm_Q) : pm_F ol orc 111 114 [(0, .ref 48)] [.ref 48] iH_140 = pm_F ol orc 111 116 [(0, .ref 48)] [.int (49), .ref 48] iH_140 := pm_F_nx rfl rfl rfl rfl
set_option maxRecDepth 100000 in
theorem i_s487 (ol : pm_O) (orc : pm_Q) : pm_F ol orc 111 116 [(0, .ref 48)] [.int (49), .ref 48] iH_140 = pm_F ol orc 111 118 [(0, .ref 48)] [.ref 62, .ref 48] iH_141 := pm_F_nx rfl rfl rfl rfl
set_option maxRecDepth 100000 in
theorem i_s488 (ol : pm_O) (orc : pm_Q) : pm_F ol orc 111 118 [(0, .ref 48)] [.ref 62, .ref 48] iH_141 = pm_F ol orc 111 121 [(0, .ref 48)] [] iH_142 := pm_F_nx rfl rfl rfl rfl
set_option maxRecDepth 100000 in
theorem i_s489 (ol : pm_O) (orc : pm_Q) : pm_F ol orc 111 121 [(0, .ref 48)] [] iH_142 = pm_F ol orc 111 122 [(0, .ref 48)] [.ref 48] iH_142 := pm_F_nx rfl rfl rfl rfl
set_option maxRecDepth 100000 in
theorem i_s490 (ol : pm_O) (orc : pm_Q) : pm_F ol orc 111 122 [(0, .ref 48)] [.ref 48] iH_142 = pm_F ol orc 111 124 [(0, .ref 48)] [.int (49), .ref 48] iH_142 := pm_F_nx rfl rfl rfl rfl
set_option maxRecDepth 100000 in
theorem i_s491 (ol : pm_O) (orc : pm_Q) : pm_F ol orc 111 124 [(0, .ref 48)] [.int (49), .ref 48] iH_142 = pm_F ol orc 111 126 [(0, .ref 48)] [.ref 63, .ref 48] iH_143 := pm_F_nx rfl rfl rfl rfl
set_option maxRecDepth 100000 in
theorem i_s492 (ol : pm_O) (orc : pm_Q) : pm_F ol orc 111 126 [(0, .ref 48)] [.ref 63, .ref 48] iH_143 = pm_F ol orc 111 129 [(0, .ref 48)] [] iH_144 := pm_F_nx rfl rfl rfl rfl
set_option maxRecDepth 100000 in
theorem i_s493 (ol : pm_O) (orc : pm_Q) : pm_F ol orc 111 129 [(0, .ref 48)] [] iH_144 = pm_F ol orc 111 130 [(0, .ref 48)] [.ref 48] iH_144 := pm_F_nx rfl rfl rfl rfl
set_option maxRecDepth 100000 in
theorem i_s494 (ol : pm_O) (orc : pm_Q) : pm_F ol orc 111 130 [(0, .ref 48)] [.ref 48] iH_144 = pm_F ol orc 111 132 [(0, .ref 48)] [.int (49), .ref 48] iH_144 := pm_F_nx rfl rfl rfl rfl
set_option maxRecDepth 100000 in
theorem i_s495 (ol : pm_O) (orc : pm_Q) : pm_F ol orc 111 132 [(0, .ref 48)] [.int (49), .ref 48] iH_144 = pm_F ol orc 111 134 [(0, .ref 48)] [.ref 64, .ref 48] iH_145 := pm_F_nx rfl rfl rfl rfl
set_option maxRecDepth 100000 in
theorem i_s496 (ol : pm_O) (orc : pm_Q) : pm_F ol orc 111 134 [(0, .ref 48)] [.ref 64, .ref 48] iH_145 = pm_F ol orc 111 137 [(0, .ref 48)] [] iH_146 := pm_F_nx rfl rfl rfl rfl
set_option maxRecDepth 100000 in
theorem i_s497 (ol : pm_O) (orc : pm_Q) : pm_F ol orc 111 137 [(0, .ref 48)] [] iH_146 = pm_F ol orc 111 138 [(0, .ref 48)] [.ref 48] iH_146 := pm_F_nx rfl rfl rfl rfl
set_option maxRecDepth 100000 in
theorem i_s498 (ol : pm_O) (orc : pm_Q) : pm_F ol orc 111 138 [(0, .ref 48)] [.ref 48] iH_146 = pm_F ol orc 111 140 [(0, .ref 48)] [.int (49), .ref 48] iH_146 := pm_F_nx rfl rfl rfl rfl
set_option maxRecDepth 100000 in
theorem i_s499 (ol : pm_O) (orc : pm_Q) : pm_F ol orc 111 140 [(0, .ref 48)] [.int (49), .ref 48] iH_146 = pm_F ol orc 111 142 [(0, .ref 48)] [.ref 65, .ref 48] iH_147 := pm_F_nx rfl rfl rfl rfl
set_option maxRecDepth 100000 in
theorem i_s500 (ol : pm_O) (orc : pm_Q) : pm_F ol orc 111 142 [(0, .ref 48)] [.ref 65, .ref 48] iH_147 = pm_F ol orc 111 145 [(0, .ref 48)] [] iH_148 := pm_F_nx rfl rfl rfl rfl
set_option maxRecDepth 100000 in
theorem i_s501 (ol : pm_O) (orc : pm_Q) : pm_F ol orc 111 145 [(0, .ref 48)] [] iH_148 = pm_F ol orc 111 146 [(0, .ref 48)] [.ref 48] iH_148 := pm_F_nx rfl rfl rfl rfl
set_option maxRecDepth 100000 in
theorem i_s502 (ol : pm_O) (orc : pm_Q) : pm_F ol orc 111 146 [(0, .ref 48)] [.ref 48] iH_148 = pm_F ol orc 111 149 [(0, .ref 48)] [.int (490), .ref 48] iH_148 := pm_F_nx rfl rfl rfl rfl
set_option maxRecDepth 100000 in
theorem i_s503 (ol : pm_O) (orc : pm_Q) : pm_F ol orc 111 149 [(0, .ref 48)] [.int (490), .ref 48] iH_148 = pm_F ol orc 111 151 [(0, .ref 48)] [.ref 66, .ref 48] iH_149 := pm_F_nx rfl rfl rfl rfl
set_option maxRecDepth 100000 in
theorem i_s504 (ol : pm_O) (orc : pm_Q) : pm_F ol orc 111 151 [(0, .ref 48)] [.ref 66, .ref 48] iH_149 = pm_F ol orc 111 154 [(0, .ref 48)] [] iH_150 := pm_F_nx rfl rfl rfl rfl
set_option maxRecDepth 100000 in
theorem i_s505 (ol : pm_O) (orc : pm_Q) : pm_F ol orc 111 154 [(0, .ref 48)] [] iH_150 = pm_F ol orc 111 155 [(0, .ref 48)] [.ref 48] iH_150 := pm_F_nx rfl rfl rfl rfl
set_option maxRecDepth 100000 in
theorem i_s506 (ol : pm_O) (orc : pm_Q) : pm_F ol orc 111 155 [(0, .ref 48)] [.ref 48] iH_150 = pm_F ol orc 111 158 [(0, .ref 48)] [.int (700), .ref 48] iH_150 := pm_F_nx rfl rfl rfl rfl
set_option maxRecDepth 100000 in
theorem i_s507 (ol : pm_O) (orc : pm_Q) : pm_F ol orc 111 158 [(0, .ref 48)] [.int (700), .ref 48] iH_150 = pm_F ol orc 111 160 [(0, .ref 48)] [.ref 67, .ref 48] iH_151 := pm_F_nx rfl rfl rfl rfl
set_option maxRecDepth 100000 in
theorem i_s508 (ol : pm_O) (orc : pm_Q) : pm_F ol orc 111 160 [(0, .ref 48)] [.ref 67, .ref 48] iH_151 = pm_F ol orc 111 163 [(0, .ref 48)] [] iH_152 := pm_F_nx rfl rfl rfl rfl
set_option maxRecDepth 100000 in
theorem i_s509 (ol : pm_O) (orc : pm_Q) : pm_F ol orc 111 163 [(0, .ref 48)] [] iH_152 = pm_F ol orc 111 164 [(0, .ref 48)] [.ref 48] iH_152 := pm_F_nx rfl rfl rfl rfl
set_option maxRecDepth 100000 in
theorem i_s510 (ol : pm_O) (orc : pm_Q) : pm_F ol orc 111 164 [(0, .ref 48)] [.ref 48] iH_152 = pm_F ol orc 111 165 [(0, .ref 48)] [.int (4), .ref 48] iH_152 := pm_F_nx rfl rfl rfl rfl
set_option maxRecDepth 100000 in
theorem i_s511 (ol : pm_O) (orc : pm_Q) : pm_F ol orc 111 165 [(0, .ref 48)] [.int (4), .ref 48] iH_152 = pm_F ol orc 111 167 [(0, .ref 48)] [.ref 68, .ref 48] iH_153 := pm_F_nx rfl rfl rfl rfl
set_option maxRecDepth 100000 in
theorem i_s512 (ol : pm_O) (orc : pm_Q) : pm_F ol orc 111 167 [(0, .ref 48)] [.ref 68, .ref 48] iH_153 = pm_F ol orc 111 170 [(0, .ref 48)] [] iH_154 := pm_F_nx rfl rfl rfl rfl
set_option maxRecDepth 100000 in
theorem i_s513 (ol : pm_O) (orc : pm_Q) : pm_F ol orc 111 170 [(0, .ref 48)] [] iH_154 = pm_F ol orc 111 171 [(0, .ref 48)] [.int (0)] iH_154 := pm_F_nx rfl rfl rfl rfl
set_option maxRecDepth 100000 in
theorem i_s514 (ol : pm_O) (orc : pm_Q) : pm_F ol orc 111 171 [(0, .ref 48)] [.int (0)] iH_154 = pm_F ol orc 111 172 [(0, .ref 48), (1, .int (0))] [] iH_154 := pm_F_nx rfl rfl rfl rfl
set_option maxRecDepth 100000 in
theorem i_s515 (ol : pm_O) (orc : pm_Q) : pm_F ol orc 111 172 [(0, .ref 48), (1, .int (0))] [] iH_154 = pm_F ol orc 111 173 [(0, .ref 48), (1, .int (0))] [.int (0)] iH_154 := pm_F_nx rfl rfl rfl rfl
set_option maxRecDepth 100000 in
theorem i_s516 (ol : pm_O) (orc : pm_Q) : pm_F ol orc 111 173 [(0, .ref 48), (1, .int (0))] [.int (0)] iH_154 = pm_F ol orc 111 175 [(0, .ref 48), (1, .int (0))] [.int (6), .int (0)] iH_154 := pm_F_nx rfl rfl rfl rfl
set_option maxRecDepth 100000 in
theorem i_s517 (ol : pm_O) (orc : pm_Q) : pm_F ol orc 111 175 [(0, .ref 48), (1, .int (0))] [.int (6), .int (0)] iH_154 = pm_F ol orc 111 178 [(0, .ref 48), (1, .int (0))] [] iH_154 := pm_F_nx rfl rfl rfl rfl
set_option maxRecDepth 100000 in
theorem i_s518 (ol : pm_O) (orc : pm_Q) : pm_F ol orc 111 178 [(0, .ref 48), (1, .int (0))] [] iH_154 = pm_F ol orc 111 179 [(0, .ref 48), (1, .int (0))] [.ref 48] iH_154 := pm_F_nx rfl rfl rfl rfl
set_option maxRecDepth 100000 in
theorem i_s519 (ol : pm_O) (orc : pm_Q) : pm_F ol orc 111 179 [(0, .ref 48), (1, .int (0))] [.ref 48] iH_154 = pm_F ol orc 111 182 [(0, .ref 48), (1, .int (0))] [.ref 51] iH_154 := pm_F_nx rfl rfl rfl rfl
set_option maxRecDepth 100000 in
theorem i_s520 (ol : pm_O) (orc : pm_Q) : pm_F ol orc 111 182 [(0, .ref 48), (1, .int (0))] [.ref 51] iH_154 = pm_F ol orc 111 183 [(0, .ref 48), (1, .int (0))] [.int (0), .ref 51] iH_154 := pm_F_nx rfl rfl rfl rfl
set_option maxRecDepth 100000 in
theorem i_s521 (ol : pm_O) (orc : pm_Q) : pm_F ol orc 111 183 [(0, .ref 48), (1, .int (0))] [.int (0), .ref 51] iH_154 = pm_F ol orc 111 184 [(0, .ref 48), (1, .int (0))] [.int (1), .int (0), .ref 51] iH_154 := pm_F_nx rfl rfl rfl rfl
set_option maxRecDepth 100000 in
theorem i_s522 (ol : pm_O) (orc : pm_Q) : pm_F ol orc 111 184 [(0, .ref 48), (1, .int (0))] [.int (1), .int (0), .ref 51] iH_154 = pm_F ol orc 111 185 [(0, .ref 48), (1, .int (0))] [] iH_155 := pm_F_nx rfl rfl rfl rfl
set_option maxRecDepth 100000 in
theorem i_s523 (ol : pm_O) (orc : pm_Q) : pm_F ol orc 111 185 [(0, .ref 48), (1, .int (0))] [] iH_155 = pm_F ol orc 111 188 [(0, .ref 48), (1, .int (1))] [] iH_155 := pm_F_nx rfl rfl rfl rfl
set_option maxRecDepth 100000 in
theorem i_s524 (ol : pm_O) (orc : pm_Q) : pm_F ol orc 111 188 [(0, .ref 48), (1, .int (1))] [] iH_155 = pm_F ol orc 111 172 [(0, .ref 48), (1, .int (1))] [] iH_155 := pm_F_nx rfl rfl rfl rfl
set_option maxRecDepth 100000 in
theorem i_s525 (ol : pm_O) (orc : pm_Q) : pm_F ol orc 111 172 [(0, .ref 48), (1, .int (1))] [] iH_155 = pm_F ol orc 111 173 [(0, .ref 48), (1, .int (1))] [.int (1)] iH_155 := pm_F_nx rfl rfl rfl rfl
set_option maxRecDepth 100000 in
theorem i_s526 (ol : pm_O) (orc : pm_Q) : pm_F ol orc 111 173 [(0, .ref 48), (1, .int (1))] [.int (1)] iH_155 = pm_F ol orc 111 175 [(0, .ref 48), (1, .int (1))] [.int (6), .int (1)] iH_155 := pm_F_nx rfl rfl rfl rfl
set_option maxRecDepth 100000 in
theorem i_s527 (ol : pm_O) (orc : pm_Q) : pm_F ol orc 111 175 [(0, .ref 48), (1, .int (1))] [.int (6), .int (1)] iH_155 = pm_F ol orc 111 178 [(0, .ref 48), (1, .int (1))] [] iH_155 := pm_F_nx rfl rfl rfl rfl
set_option maxRecDepth 100000 in
theorem i_s528 (ol : pm_O) (orc : pm_Q) : pm_F ol orc 111 178 [(0, .ref 48), (1, .int (1))] [] iH_155 = pm_F ol orc 111 179 [(0, .ref 48), (1, .int (1))] [.ref 48] iH_155 := pm_F_nx rfl rfl rfl rfl
set_option maxRecDepth 100000 in
theorem i_s529 (ol : pm_O) (orc : pm_Q) : pm_F ol orc 111 179 [(0, .ref 48), (1, .int (1))] [.ref 48] iH_155 = pm_F ol orc 111 182 [(0, .ref 48), (1, .int (1))] [.ref 51] iH_155 := pm_F_nx rfl rfl rfl rfl
set_option maxRecDepth 100000 in
theorem i_s530 (ol : pm_O) (orc : pm_Q) : pm_F ol orc 111 182 [(0, .ref 48), (1, .int (1))] [.ref 51] iH_155 = pm_F ol orc 111 183 [(0, .ref 48), (1, .int (1))] [.int (1), .ref 51] iH_155 := pm_F_nx rfl rfl rfl rfl
set_option maxRecDepth 100000 in
theorem i_s531 (ol : pm_O) (orc : pm_Q) : pm_F ol orc 111 183 [(0, .ref 48), (1, .int (1))] [.int (1), .ref 51] iH_155 = pm_F ol orc 111 184 [(0, .ref 48), (1, .int (1))] [.int (1), .int (1), .ref 51] iH_155 := pm_F_nx rfl rfl rfl rfl
set_option maxRecDepth 100000 in
theorem i_s532 (ol : pm_O) (orc : pm_Q) : pm_F ol orc 111 184 [(0, .ref 48), (1, .int (1))] [.int (1), .int (1), .ref 51] iH_155 = pm_F ol orc 111 185 [(0, .ref 48), (1, .int (1))] [] iH_156 := pm_F_nx rfl rfl rfl rfl
set_option maxRecDepth 100000 in
theorem i_s533 (ol : pm_O) (orc : pm_Q) : pm_F ol orc 111 185 [(0, .ref 48), (1, .int (1))] [] iH_156 = pm_F ol orc 111 188 [(0, .ref 48), (1, .int (2))] [] iH_156 := pm_F_nx rfl rfl rfl rfl
set_option maxRecDepth 100000 in
theorem i_s534 (ol : pm_O) (orc : pm_Q) : pm_F ol orc 111 188 [(0, .ref 48), (1, .int (2))] [] iH_156 = pm_F ol orc 111 172 [(0, .ref 48), (1, .int (2))] [] iH_156 := pm_F_nx rfl rfl rfl rfl
set_option maxRecDepth 100000 in
theorem i_s535 (ol : pm_O) (orc : pm_Q) : pm_F ol orc 111 172 [(0, .ref 48), (1, .int (2))] [] iH_156 = pm_F ol orc 111 173 [(0, .ref 48), (1, .int (2))] [.int (2)] iH_156 := pm_F_nx rfl rfl rfl rfl
set_option maxRecDepth 100000 in
theorem i_s536 (ol : pm_O) (orc : pm_Q) : pm_F ol orc 111 173 [(0, .ref 48), (1, .int (2))] [.int (2)] iH_156 = pm_F ol orc 111 175 [(0, .ref 48), (1, .int (2))] [.int (6), .int (2)] iH_156 := pm_F_nx rfl rfl rfl rfl
set_option maxRecDepth 100000 in
theorem i_s537 (ol : pm_O) (orc : pm_Q) : pm_F ol orc 111 175 [(0, .ref 48), (1, .int (2))] [.int (6), .int (2)] iH_156 = pm_F ol orc 111 178 [(0, .ref 48), (1, .int (2))] [] iH_156 := pm_F_nx rfl rfl rfl rfl
set_option maxRecDepth 100000 in
theorem i_s538 (ol : pm_O) (orc : pm_Q) : pm_F ol orc 111 178 [(0, .ref 48), (1, .int (2))] [] iH_156 = pm_F ol orc 111 179 [(0, .ref 48), (1, .int (2))] [.ref 48] iH_156 := pm_F_nx rfl rfl rfl rfl
set_option maxRecDepth 100000 in
theorem i_s539 (ol : pm_O) (orc : pm_Q) : pm_F ol orc 111 179 [(0, .ref 48), (1, .int (2))] [.ref 48] iH_156 = pm_F ol orc 111 182 [(0, .ref 48), (1, .int (2))] [.ref 51] iH_156 := pm_F_nx rfl rfl rfl rfl
set_option maxRecDepth 100000 in
theorem i_s540 (ol : pm_O) (orc : pm_Q) : pm_F ol orc 111 182 [(0, .ref 48), (1, .int (2))] [.ref 51] iH_156 = pm_F ol orc 111 183 [(0, .ref 48), (1, .int (2))] [.int (2), .ref 51] iH_156 := pm_F_nx rfl rfl rfl rfl
set_option maxRecDepth 100000 in
theorem i_s541 (ol : pm_O) (orc : pm_Q) : pm_F ol orc 111 183 [(0, .ref 48), (1, .int (2))] [.int (2), .ref 51] iH_156 = pm_F ol orc 111 184 [(0, .ref 48), (1, .int (2))] [.int (1), .int (2), .ref 51] iH_156 := pm_F_nx rfl rfl rfl rfl
set_option maxRecDepth 100000 in
theorem i_s542 (ol : pm_O) (orc : pm_Q) : pm_F ol orc 111 184 [(0, .ref 48), (1, .int (2))] [.int (1), .int (2), .ref 51] iH_156 = pm_F ol orc 111 185 [(0, .ref 48), (1, .int (2))] [] iH_157 := pm_F_nx rfl rfl rfl rfl
set_option maxRecDepth 100000 in
theorem i_s543 (ol : pm_O) (orc : pm_Q) : pm_F ol orc 111 185 [(0, .ref 48), (1, .int (2))] [] iH_157 = pm_F ol orc 111 188 [(0, .ref 48), (1, .int (3))] [] iH_157 := pm_F_nx rfl rfl rfl rfl
set_option maxRecDepth 100000 in
theorem i_s544 (ol : pm_O) (orc : pm_Q) : pm_F ol orc 111 188 [(0, .ref 48), (1, .int (3))] [] iH_157 = pm_F ol orc 111 172 [(0, .ref 48), (1, .int (3))] [] iH_157 := pm_F_nx rfl rfl rfl rfl
set_option maxRecDepth 100000 in
theorem i_s545 (ol : pm_O) (orc : pm_Q) : pm_F ol orc 111 172 [(0, .ref 48), (1, .int (3))] [] iH_157 = pm_F ol orc 111 173 [(0, .ref 48), (1, .int (3))] [.int (3)] iH_157 := pm_F_nx rfl rfl rfl rfl
set_option maxRecDepth 100000 in
theorem i_s546 (ol : pm_O) (orc : pm_Q) : pm_F ol orc 111 173 [(0, .ref 48), (1, .int (3))] [.int (3)] iH_157 = pm_F ol orc 111 175 [(0, .ref 48), (1, .int (3))] [.int (6), .int (3)] iH_157 := pm_F_nx rfl rfl rfl rfl
set_option maxRecDepth 100000 in
theorem i_s547 (ol : pm_O) (orc : pm_Q) : pm_F ol orc 111 175 [(0, .ref 48), (1, .int (3))] [.int (6), .int (3)] iH_157 = pm_F ol orc 111 178 [(0, .ref 48), (1, .int (3))] [] iH_157 := pm_F_nx rfl rfl rfl rfl
set_option maxRecDepth 100000 in
theorem i_s548 (ol : pm_O) (orc : pm_Q) : pm_F ol orc 111 178 [(0, .ref 48), (1, .int (3))] [] iH_157 = pm_F ol orc 111 179 [(0, .ref 48), (1, .int (3))] [.ref 48] iH_157 := pm_F_nx rfl rfl rfl rfl
set_option maxRecDepth 100000 in
theorem i_s549 (ol : pm_O) (orc : pm_Q) : pm_F ol orc 111 179 [(0, .ref 48), (1, .int (3))] [.ref 48] iH_157 = pm_F ol orc 111 182 [(0, .ref 48), (1, .int (3))] [.ref 51] iH_157 := pm_F_nx rfl rfl rfl rfl
set_option maxRecDepth 100000 in
theorem i_s550 (ol : pm_O) (orc : pm_Q) : pm_F ol orc 111 182 [(0, .ref 48), (1, .int (3))] [.ref 51] iH_157 = pm_F ol orc 111 183 [(0, .ref 48), (1, .int (3))] [.int (3), .ref 51] iH_157 := pm_F_nx rfl rfl rfl rfl
set_option maxRecDepth 100000 in
theorem i_s551 (ol : pm_O) (orc : pm_Q) : pm_F ol orc 111 183 [(0, .ref 48), (1, .int (3))] [.int (3), .ref 51] iH_157 = pm_F ol orc 111 184 [(0, .ref 48), (1, .int (3))] [.int (1), .int (3), .ref 51] iH_157 := pm_F_nx rfl rfl rfl rfl
set_option maxRecDepth 100000 in
theorem i_s552 (ol : pm_O) (orc : pm_Q) : pm_F ol orc 111 184 [(0, .ref 48), (1, .int (3))] [.int (1), .int (3), .ref 51] iH_157 = pm_F ol orc 111 185 [(0, .ref 48), (1, .int (3))] [] iH_158 := pm_F_nx rfl rfl rfl rfl
set_option maxRecDepth 100000 in
theorem i_s553 (ol : pm_O) (orc : pm_Q) : pm_F ol orc 111 185 [(0, .ref 48), (1, .int (3))] [] iH_158 = pm_F ol orc 111 188 [(0, .ref 48), (1, .int (4))] [] iH_158 := pm_F_nx rfl rfl rfl rfl
set_option maxRecDepth 100000 in
theorem i_s554 (ol : pm_O) (orc : pm_Q) : pm_F ol orc 111 188 [(0, .ref 48), (1, .int (4))] [] iH_158 = pm_F ol orc 111 172 [(0, .ref 48), (1, .int (4))] [] iH_158 := pm_F_nx rfl rfl rfl rfl
set_option maxRecDepth 100000 in
theorem i_s555 (ol : pm_O) (orc : pm_Q) : pm_F ol orc 111 172 [(0, .ref 48), (1, .int (4))] [] iH_158 = pm_F ol orc 111 173 [(0, .ref 48), (1, .int (4))] [.int (4)] iH_158 := pm_F_nx rfl rfl rfl rfl
set_option maxRecDepth 100000 in
theorem i_s556 (ol : pm_O) (orc : pm_Q) : pm_F ol orc 111 173 [(0, .ref 48), (1, .int (4))] [.int (4)] iH_158 = pm_F ol orc 111 175 [(0, .ref 48), (1, .int (4))] [.int (6), .int (4)] iH_158 := pm_F_nx rfl rfl rfl rfl
set_option maxRecDepth 100000 in
theorem i_s557 (ol : pm_O) (orc : pm_Q) : pm_F ol orc 111 175 [(0, .ref 48), (1, .int (4))] [.int (6), .int (4)] iH_158 = pm_F ol orc 111 178 [(0, .ref 48), (1, .int (4))] [] iH_158 := pm_F_nx rfl rfl rfl rfl
set_option maxRecDepth 100000 in
theorem i_s558 (ol : pm_O) (orc : pm_Q) : pm_F ol orc 111 178 [(0, .ref 48), (1, .int (4))] [] iH_158 = pm_F ol orc 111 179 [(0, .ref 48), (1, .int (4))] [.ref 48] iH_158 := pm_F_nx rfl rfl rfl rfl
set_option maxRecDepth 100000 in
theorem i_s559 (ol : pm_O) (orc : pm_Q) : pm_F ol orc 111 179 [(0, .ref 48), (1, .int (4))] [.ref 48] iH_158 = pm_F ol orc 111 182 [(0, .ref 48), (1, .int (4))] [.ref 51] iH_158 := pm_F_nx rfl rfl rfl rfl
set_option maxRecDepth 100000 in
theorem i_s560 (ol : pm_O) (orc : pm_Q) : pm_F ol orc 111 182 [(0, .ref 48), (1, .int (4))] [.ref 51] iH_158 = pm_F ol orc 111 183 [(0, .ref 48), (1, .int (4))] [.int (4), .ref 51] iH_158 := pm_F_nx rfl rfl rfl rfl
set_option maxRecDepth 100000 in
theorem i_s561 (ol : pm_O) (orc : pm_Q) : pm_F ol orc 111 183 [(0, .ref 48), (1, .int (4))] [.int (4), .ref 51] iH_158 = pm_F ol orc 111 184 [(0, .ref 48), (1, .int (4))] [.int (1), .int (4), .ref 51] iH_158 := pm_F_nx rfl rfl rfl rfl
set_option maxRecDepth 100000 in
theorem i_s562 (ol : pm_O) (orc : pm_Q) : pm_F ol orc 111 184 [(0, .ref 48), (1, .int (4))] [.int (1), .int (4), .ref 51] iH_158 = pm_F ol orc 111 185 [(0, .ref 48), (1, .int (4))] [] iH_159 := pm_F_nx rfl rfl rfl rfl
set_option maxRecDepth 100000 in
theorem i_s563 (ol : pm_O) (orc : pm_Q) : pm_F ol orc 111 185 [(0, .ref 48), (1, .int (4))] [] iH_159 = pm_F ol orc 111 188 [(0, .ref 48), (1, .int (5))] [] iH_159 := pm_F_nx rfl rfl rfl rfl
set_option maxRecDepth 100000 in
theorem i_s564 (ol : pm_O) (orc : pm_Q) : pm_F ol orc 111 188 [(0, .ref 48), (1, .int (5))] [] iH_159 = pm_F ol orc 111 172 [(0, .ref 48), (1, .int (5))] [] iH_159 := pm_F_nx rfl rfl rfl rfl
set_option maxRecDepth 100000 in
theorem i_s565 (ol : pm_O) (orc : pm_Q) : pm_F ol orc 111 172 [(0, .ref 48), (1, .int (5))] [] iH_159 = pm_F ol orc 111 173 [(0, .ref 48), (1, .int (5))] [.int (5)] iH_159 := pm_F_nx rfl rfl rfl rfl
set_option maxRecDepth 100000 in
theorem i_s566 (ol : pm_O) (orc : pm_Q) : pm_F ol orc 111 173 [(0, .ref 48), (1, .int (5))] [.int (5)] iH_159 = pm_F ol orc 111 175 [(0, .ref 48), (1, .int (5))] [.int (6), .int (5)] iH_159 := pm_F_nx rfl rfl rfl rfl
set_option maxRecDepth 100000 in
theorem i_s567 (ol : pm_O) (orc : pm_Q) : pm_F ol orc 111 175 [(0, .ref 48), (1, .int (5))] [.int (6), .int (5)] iH_159 = pm_F ol orc 111 178 [(0, .ref 48), (1, .int (5))] [] iH_159 := pm_F_nx rfl rfl rfl rfl
set_option maxRecDepth 100000 in
theorem i_s568 (ol : pm_O) (orc : pm_Q) : pm_F ol orc 111 178 [(0, .ref 48), (1, .int (5))] [] iH_159 = pm_F ol orc 111 179 [(0, .ref 48), (1, .int (5))] [.ref 48] iH_159 := pm_F_nx rfl rfl rfl rfl
set_option maxRecDepth 100000 in
theorem i_s569 (ol : pm_O) (orc : pm_Q) : pm_F ol orc 111 179 [(0, .ref 48), (1, .int (5))] [.ref 48] iH_159 = pm_F ol orc 111 182 [(0, .ref 48), (1, .int (5))] [.ref 51] iH_159 := pm_F_nx rfl rfl rfl rfl
set_option maxRecDepth 100000 in
theorem i_s570 (ol : pm_O) (orc : pm_Q) : pm_F ol orc 111 182 [(0, .ref 48), (1, .int (5))] [.ref 51] iH_159 = pm_F ol orc 111 183 [(0, .ref 48), (1, .int (5))] [.int (5), .ref 51] iH_159 := pm_F_nx rfl rfl rfl rfl
set_option maxRecDepth 100000 in
theorem i_s571 (ol : pm_O) (orc : pm_Q) : pm_F ol orc 111 183 [(0, .ref 48), (1, .int (5))] [.int (5), .ref 51] iH_159 = pm_F ol orc 111 184 [(0, .ref 48), (1, .int (5))] [.int (1), .int (5), .ref 51] iH_159 := pm_F_nx rfl rfl rfl rfl
set_option maxRecDepth 100000 in
theorem i_s572 (ol : pm_O) (orc : pm_Q) : pm_F ol orc 111 184 [(0, .ref 48), (1, .int (5))] [.int (1), .int (5), .ref 51] iH_159 = pm_F ol orc 111 185 [(0, .ref 48), (1, .int (5))] [] iH_160 := pm_F_nx rfl rfl rfl rfl
set_option maxRecDepth 100000 in
theorem i_s573 (ol : pm_O) (orc : pm_Q) : pm_F ol orc 111 185 [(0, .ref 48), (1, .int (5))] [] iH_160 = pm_F ol orc 111 188 [(0, .ref 48), (1, .int (6))] [] iH_160 := pm_F_nx rfl rfl rfl rfl
set_option maxRecDepth 100000 in
theorem i_s574 (ol : pm_O) (orc : pm_Q) : pm_F ol orc 111 188 [(0, .ref 48), (1, .int (6))] [] iH_160 = pm_F ol orc 111 172 [(0, .ref 48), (1, .int (6))] [] iH_160 := pm_F_nx rfl rfl rfl rfl
set_option maxRecDepth 100000 in
theorem i_s575 (ol : pm_O) (orc : pm_Q) : pm_F ol orc 111 172 [(0, .ref 48), (1, .int (6))] [] iH_160 = pm_F ol orc 111 173 [(0, .ref 48), (1, .int (6))] [.int (6)] iH_160 := pm_F_nx rfl rfl rfl rfl
set_option maxRecDepth 100000 in
theorem i_s576 (ol : pm_O) (orc : pm_Q) : pm_F ol orc 111 173 [(0, .ref 48), (1, .int (6))] [.int (6)] iH_160 = pm_F ol orc 111 175 [(0, .ref 48), (1, .int (6))] [.int (6), .int (6)] iH_160 := pm_F_nx rfl rfl rfl rfl
set_option maxRecDepth 100000 in
theorem i_s577 (ol : pm_O) (orc : pm_Q) : pm_F ol orc 111 175 [(0, .ref 48), (1, .int (6))] [.int (6), .int (6)] iH_160 = pm_F ol orc 111 191 [] [] iH_160 := pm_F_nx rfl rfl rfl rfl
set_option maxRecDepth 100000 in
theorem i_s578 (ol : pm_O) (orc : pm_Q) : pm_F ol orc 111 191 [] [] iH_160 = some (none, iH_160) := pm_F_rt rfl rfl rfl
set_option maxRecDepth 100000 in
theorem i_c26 (ol : pm_O) (orc : pm_Q) : pm_V ol orc 111 [.ref 48] iH_113 = some (none, iH_160) := (show pm_V ol orc 111 [.ref 48] iH_113 = pm_F ol orc 111 0 [(0, .ref 48)] [] iH_113 from (if_pos (r_le rfl)).trans (pm_F_live rfl)).trans ((i_s428 ol orc).trans ((i_s429 ol orc).trans ((i_s430 ol orc).trans ((i_s431 ol orc).trans ((i_s432 ol orc).trans ((i_s433 ol orc).trans ((i_s434 ol orc).trans ((i_s435 ol orc).trans ((i_s436 ol orc).trans ((i_s437 ol orc).trans ((i_s438 ol orc).trans ((i_s439 ol orc).trans ((i_s440 ol orc).trans ((i_s441 ol orc).trans ((i_s442 ol orc).trans ((i_s443 ol orc).trans ((i_s444 ol orc).trans ((i_s445 ol orc).trans ((i_s446 ol orc).trans ((i_s447 ol orc).trans ((i_s448 ol orc).trans ((i_s449 ol orc).trans ((i_s450 ol orc).trans ((i_s451 ol orc).trans ((i_s452 ol orc).trans ((i_s453 ol orc).trans ((i_s454 ol orc).trans ((i_s455 ol orc).trans ((i_s456 ol orc).trans ((i_s457 ol orc).trans ((i_s458 ol orc).trans ((i_s459 ol orc).trans ((i_s460 ol orc).trans ((i_s461 ol orc).trans ((i_s462 ol orc).trans ((i_s463 ol orc).trans ((i_s464 ol orc).trans ((i_s465 ol orc).trans ((i_s466 ol orc).trans ((i_s467 ol orc).trans ((i_s468 ol orc).trans ((i_s469 ol orc).trans ((i_s470 ol orc).trans ((i_s471 ol orc).trans ((i_s472 ol orc).trans ((i_s473 ol orc).trans ((i_s474 ol orc).trans ((i_s475 ol orc).trans ((i_s476 ol orc).trans ((i_s477 ol orc).trans ((i_s478 ol orc).trans ((i_s479 ol orc).trans ((i_s480 ol orc).trans ((i_s481 ol orc).trans ((i_s482 ol orc).trans ((i_s483 ol orc).trans ((i_s484 ol orc).trans ((i_s485 ol orc).trans ((i_s486 ol orc).trans ((i_s487 ol orc).trans ((i_s488 ol orc).trans ((i_s489 ol orc).trans ((i_s490 ol orc).trans ((i_s491 ol orc).trans ((i_s492 ol orc).trans ((i_s493 ol orc).trans ((i_s494 ol orc).trans ((i_s495 ol orc).trans ((i_s496 ol orc).trans ((i_s497 ol orc).trans ((i_s498 ol orc).trans ((i_s499 ol orc).trans ((i_s500 ol orc).trans ((i_s501 ol orc).trans ((i_s502 ol orc).trans ((i_s503 ol orc).trans ((i_s504 ol orc).trans ((i_s505 ol orc).trans ((i_s506 ol orc).trans ((i_s507 ol orc).trans ((i_s508 ol orc).trans ((i_s509 ol orc).trans ((i_s510 ol orc).trans ((i_s511 ol orc).trans ((i_s512 ol orc).trans ((i_s513 ol orc).trans ((i_s514 ol orc).trans ((i_s515 ol orc).trans ((i_s516 ol orc).trans ((i_s517 ol orc).trans ((i_s518 ol orc).trans ((i_s519 ol orc).trans ((i_s520 ol orc).trans ((i_s521 ol orc).trans ((i_s522 ol orc).trans ((i_s523 ol orc).trans ((i_s524 ol orc).trans ((i_s525 ol orc).trans ((i_s526 ol orc).trans ((i_s527 ol orc).trans ((i_s528 ol orc).trans ((i_s529 ol orc).trans ((i_s530 ol orc).trans ((i_s531 ol orc).trans ((i_s532 ol orc).trans ((i_s533 ol orc).trans ((i_s534 ol orc).trans ((i_s535 ol orc).trans ((i_s536 ol orc).trans ((i_s537 ol orc).trans ((i_s538 ol orc).trans ((i_s539 ol orc).trans ((i_s540 ol orc).trans ((i_s541 ol orc).trans ((i_s542 ol orc).trans ((i_s543 ol orc).trans ((i_s544 ol orc).trans ((i_s545 ol orc).trans ((i_s546 ol orc).trans ((i_s547 ol orc).trans ((i_s548 ol orc).trans ((i_s549 ol orc).trans ((i_s550 ol orc).trans ((i_s551 ol orc).trans ((i_s552 ol orc).trans ((i_s553 ol orc).trans ((i_s554 ol orc).trans ((i_s555 ol orc).trans ((i_s556 ol orc).trans ((i_s557 ol orc).trans ((i_s558 ol orc).trans ((i_s559 ol orc).trans ((i_s560 ol orc).trans ((i_s561 ol orc).trans ((i_s562 ol orc).trans ((i_s563 ol orc).trans ((i_s564 ol orc).trans ((i_s565 ol orc).trans ((i_s566 ol orc).trans ((i_s567 ol orc).trans ((i_s568 ol orc).trans ((i_s569 ol orc).trans ((i_s570 ol orc).trans ((i_s571 ol orc).trans ((i_s572 ol orc).trans ((i_s573 ol orc).trans ((i_s574 ol orc).trans ((i_s575 ol orc).trans ((i_s576 ol orc).trans ((i_s577 ol orc).trans (i_s578 ol orc)))))))))))))))))))))))))))))))))))))))))))))))))))))))))))))))))))))))))))))))))))))))))))))))))))))))))))))))))))))))))))))))))))))))))))))))))))))))
set_option maxRecDepth 100000 in
theorem i_s579 (ol : pm_O) (orc : pm_Q) : pm_F ol orc 168 12 [(0, .ref 1000), (1, .ref 0)] [.ref 48, .ref 48] iH_113 = pm_F ol orc 168 15 [(0, .ref 1000), (1, .ref 0)] [.ref 48] iH_160 := (r_vc rfl rfl rfl rfl rfl rfl (r_le rfl) (r_le rfl) rfl).trans ((if_pos rfl).trans (by rw [i_c26]; rfl))
set_option maxRecDepth 100000 in
theorem i_s580 (ol : pm_O) (orc : pm_Q) : pm_F ol orc 168 15 [(0, .ref 1000), (1, .ref 0)] [.ref 48] iH_160 = pm_F ol orc 168 16 [(0, .ref 1000), (1, .ref 0), (2, .ref 48)] [] iH_160 := pm_F_nx rfl rfl rfl rfl
set_option maxRecDepth 100000 in
theorem i_s581 (ol : pm_O) (orc : pm_Q) : pm_F ol orc 168 16 [(0, .ref 1000), (1, .ref 0), (2, .ref 48)] [] iH_160 = pm_F ol orc 168 17 [(0, .ref 1000), (1, .ref 0), (2, .ref 48)] [.int (1)] iH_160 := pm_F_nx rfl rfl rfl rfl
set_option maxRecDepth 100000 in
theorem i_s582 (ol : pm_O) (orc : pm_Q) : pm_F ol orc 168 17 [(0, .ref 1000), (1, .ref 0), (2, .ref 48)] [.int (1)] iH_160 = pm_F ol orc 168 19 [(0, .ref 1000), (1, .ref 0), (2, .ref 48)] [.ref 69] iH_161 := pm_F_nx rfl rfl rfl rfl
set_option maxRecDepth 100000 in
theorem i_s583 (ol : pm_O) (orc : pm_Q) : pm_F ol orc 168 19 [(0, .ref 1000), (1, .ref 0), (2, .ref 48)] [.ref 69] iH_161 = pm_F ol orc 168 20 [(0, .ref 1000), (1, .ref 0), (2, .ref 48), (3, .ref 69)] [] iH_161 := pm_F_nx rfl rfl rfl rfl
set_option maxRecDepth 100000 in
theorem i_s584 (ol : pm_O) (orc : pm_Q) : pm_F ol orc 168 20 [(0, .ref 1000), (1, .ref 0), (2, .ref 48), (3, .ref 69)] [] iH_161 = pm_F ol orc 168 21 [(0, .ref 1000), (1, .ref 0), (2, .ref 48), (3, .ref 69)] [.int (0)] iH_161 := pm_F_nx rfl rfl rfl rfl
set_option maxRecDepth 100000 in
theorem i_s585 (ol : pm_O) (orc : pm_Q) : pm_F ol orc 168 21 [(0, .ref 1000), (1, .ref 0), (2, .ref 48), (3, .ref 69)] [.int (0)] iH_161 = pm_F ol orc 168 23 [(0, .ref 1000), (1, .ref 0), (2, .ref 48), (3, .ref 69), (4, .int (0))] [] iH_161 := pm_F_nx rfl rfl rfl rfl
set_option maxRecDepth 100000 in
theorem i_start (ol : pm_O) (orc : pm_Q) : pm_F ol orc 168 0 (lv_args 0 [.ref 1000]) [] [] = pm_F ol orc 168 23 [(0, .ref 1000), (1, .ref 0), (2, .ref 48), (3, .ref 69), (4, .int (0))] [] iH_161 := (show pm_F ol orc 168 0 (lv_args 0 [.ref 1000]) [] [] = pm_F ol orc 168 0 [(0, .ref 1000)] [] iH_0 from pm_F_live rfl).trans ((i_s1 ol orc).trans ((i_s2 ol orc).trans ((i_s424 ol orc).trans ((i_s425 ol orc).trans ((i_s426 ol orc).trans ((i_s427 ol orc).trans ((i_s579 ol orc).trans ((i_s580 ol orc).trans ((i_s581 ol orc).trans ((i_s582 ol orc).trans ((i_s583 ol orc).trans ((i_s584 ol orc).trans (i_s585 ol orc)))))))))))))
