set_option maxRecDepth 100000 in
theorem ck_60 : pm_ckM pmT pmM_60 = true := by decide +kernel
set_option maxRecDepth 100000 in
theorem ck_61 : pm_ckM pmT pmM_61 = true := by decide +kernel
set_option maxRecDepth 100000 in
theorem ck_62 : pm_ckM pmT pmM_62 = true := by decide +kernel
set_option maxRecDepth 100000 in
theorem ck_63 : pm_ckM pmT pmM_63 = true := by decide +kernel
set_option maxRecDepth 100000 in
theorem ck_64 : pm_ckM pmT pmM_64 = true := by decide +kernel
set_option maxRecDepth 100000 in
theorem ck_65 : pm_ckM pmT pmM_65 = true := by decide +kernel
set_option maxRecDepth 100000 in
theorem ck_66 : pm_ckM pmT pmM_66 = true := by decide +kernel
set_option maxRecDepth 100000 in
theorem ck_67 : pm_ckM pmT pmM_67 = true := by decide +kernel
set_option maxRecDepth 100000 in
theorem ck_68 : pm_ckM pmT pmM_68 = true := by decide +kernel
set_option maxRecDepth 100000 in
theorem ck_69 : pm_ckM pmT pmM_69 = true := by decide +kernel
set_option maxRecDepth 100000 in
theorem ck_70 : pm_ckM pmT pmM_70 = true := by decide +kernel
set_option maxRecDepth 100000 in
theorem ck_71 : pm_ckM pmT pmM_71 = true := by decide +kernel
set_option maxRecDepth 100000 in
theorem ck_72 : pm_ckM pmT pmM_72 = true := by decide +kernel
set_option maxRecDepth 100000 in
theorem ck_73 : pm_ckM pmT pmM_73 = true := by decide +kernel
set_option maxRecDepth 100000 in
theorem ck_74 : pm_ckM pmT pmM_74 = true := by decide +kernel
set_option maxRecDepth 100000 in
theorem ck_75 : pm_ckM pmT pmM_75 = true := by decide +kernel
set_option maxRecDepth 100000 in
theorem ck_76 : pm_ckM pmT pmM_76 = true := by decide +kernel
set_option maxRecDepth 100000 in
theorem ck_77 : pm_ckM pmT pmM_77 = true := by decide +kernel
set_option maxRecDepth 100000 in
theorem ck_78 : pm_ckM pmT pmM_78 = true := by decide +kernel
set_option maxRecDepth 100000 in
theorem ck_79 : pm_ckM pmT pmM_79 = true := by decide +kernel
set_option maxRecDepth 100000 in
theorem ck_80 : pm_ckM pmT pmM_80 = true := by decide +kernel
set_option maxRecDepth 100000 in
theorem ck_81 : pm_ckM pmT pmM_81 = true := by decide +kernel
set_option maxRecDepth 100000 in
theorem ck_82 : pm_ckM pmT pmM_82 = true := by decide +kernel
set_option maxRecDepth 100000 in
theorem ck_83 : pm_ckM pmT pmM_83 = true := by decide +kernel
set_option maxRecDepth 100000 in
theorem ck_84 : pm_ckM pmT pmM_84 = true := by decide +kernel
set_option maxRecDepth 100000 in
theorem ck_85 : pm_ckM pmT pmM_85 = true := by decide +kernel
set_option maxRecDepth 100000 in
theorem ck_86 : pm_ckM pmT pmM_86 = true := by decide +kernel
set_option maxRecDepth 100000 in
theorem ck_87 : pm_ckM pmT pmM_87 = true := by decide +kernel
set_option maxRecDepth 100000 in
theorem ck_88 : pm_ckM pmT pmM_88 = true := by decide +kernel
set_option maxRecDepth 100000 in
theorem ck_89 : pm_ckM pmT pmM_89 = true := by decide +kernel
set_option maxRecDepth 100000 in
theorem ck_90 : pm_ckM pmT pmM_90 = true := by decide +kernel
set_option maxRecDepth 100000 in
theorem ck_91 : pm_ckM pmT pmM_91 = true := by decide +kernel
set_option maxRecDepth 100000 in
theorem ck_92 : pm_ckM pmT pmM_92 = true := by decide +kernel
set_option maxRecDepth 100000 in
theorem ck_93 : pm_ckM pmT pmM_93 = true := by decide +kernel
set_option maxRecDepth 100000 in
theorem ck_94 : pm_ckM pmT pmM_94 = true := by decide +kernel
set_option maxRecDepth 100000 in
theorem ck_95 : pm_ckM pmT pmM_95 = true := by decide +kernel
set_option maxRecDepth 100000 in
theorem ck_96 : pm_ckM pmT pmM_96 = true := by decide +kernel
set_option maxRecDepth 100000 in
theorem ck_97 : pm_ckM pmT pmM_97 = true := by decide +kernel
set_option maxRecDepth 100000 in
theorem ck_98 : pm_ckM pmT pmM_98 = true := by decide +kernel
set_option maxRecDepth 100000 in
theorem ck_99 : pm_ckM pmT pmM_99 = true := by decide +kernel
set_option maxRecDepth 100000 in
theorem ck_100 : pm_ckM pmT pmM_100 = true := by decide +kernel
set_option maxRecDepth 100000 in
theorem ck_101 : pm_ckM pmT pmM_101 = true := by decide +kernel
set_option maxRecDepth 100000 in
theorem ck_102 : pm_ckM pmT pmM_102 = true := by decide +kernel
set_option maxRecDepth 100000 in
theorem ck_103 : pm_ckM pmT pmM_103 = true := by decide +kernel
set_option maxRecDepth 100000 in
theorem ck_104 : pm_ckM pmT pmM_104 = true := by decide +kernel
set_option maxRecDepth 100000 in
theorem ck_105 : pm_ckM pmT pmM_105 = true := by decide +kernel
set_option maxRecDepth 100000 in
theorem ck_106 : pm_ckM pmT pmM_106 = true := by decide +kernel
set_option maxRecDepth 100000 in
theorem ck_107 : pm_ckM pmT pmM_107 = true := by decide +kernel
set_option maxRecDepth 100000 in
theorem ck_108 : pm_ckM pmT pmM_108 = true := by decide +kernel
set_option maxRecDepth 100000 in
theorem ck_109 : pm_ckM pmT pmM_109 = true := by decide +kernel
set_option maxRecDepth 100000 in
theorem ck_110 : pm_ckM pmT pmM_110 = true := by decide +kernel
set_option maxRecDepth 100000 in
theorem ck_111 : pm_ckM pmT pmM_111 = true := by decide +kernel
set_option maxRecDepth 100000 in
theorem ck_112 : pm_ckM pmT pmM_112 = true := by decide +kernel
set_option maxRecDepth 100000 in
theorem ck_113 : pm_ckM pmT pmM_113 = true := by decide +kernel
set_option maxRecDepth 100000 in
theorem ck_114 : pm_ckM pmT pmM_114 = true := by decide +kernel
set_option maxRecDepth 100000 in
theorem ck_115 : pm_ckM pmT pmM_115 = true := by decide +kernel
set_option maxRecDepth 100000 in
theorem ck_116 : pm_ckM pmT pmM_116 = true := by decide +kernel
set_option maxRecDepth 100000 in
theorem ck_117 : pm_ckM pmT pmM_117 = true := by decide +kernel
set_option maxRecDepth 100000 in
theorem ck_118 : pm_ckM pmT pmM_118 = true := by decide +kernel
set_option maxRecDepth 100000 in
theorem ck_119 : pm_ckM pmT pmM_119 = true := by decide +kernel
