set_option maxRecDepth 100000 in
theorem ck_0 : pm_ckM pmT pmM_0 = true := by decide +kernel
set_option maxRecDepth 100000 in
theorem ck_1 : pm_ckM pmT pmM_1 = true := by decide +kernel
set_option maxRecDepth 100000 in
theorem ck_2 : pm_ckM pmT pmM_2 = true := by decide +kernel
set_option maxRecDepth 100000 in
theorem ck_3 : pm_ckM pmT pmM_3 = true := by decide +kernel
set_option maxRecDepth 100000 in
theorem ck_4 : pm_ckM pmT pmM_4 = true := by decide +kernel
set_option maxRecDepth 100000 in
theorem ck_5 : pm_ckM pmT pmM_5 = true := by decide +kernel
set_option maxRecDepth 100000 in
theorem ck_6 : pm_ckM pmT pmM_6 = true := by decide +kernel
set_option maxRecDepth 100000 in
theorem ck_7 : pm_ckM pmT pmM_7 = true := by decide +kernel
set_option maxRecDepth 100000 in
theorem ck_8 : pm_ckM pmT pmM_8 = true := by decide +kernel
set_option maxRecDepth 100000 in
theorem ck_9 : pm_ckM pmT pmM_9 = true := by decide +kernel
set_option maxRecDepth 100000 in
theorem ck_10 : pm_ckM pmT pmM_10 = true := by decide +kernel
set_option maxRecDepth 100000 in
theorem ck_11 : pm_ckM pmT pmM_11 = true := by decide +kernel
set_option maxRecDepth 100000 in
theorem ck_12 : pm_ckM pmT pmM_12 = true := by decide +kernel
set_option maxRecDepth 100000 in
theorem ck_13 : pm_ckM pmT pmM_13 = true := by decide +kernel
set_option maxRecDepth 100000 in
theorem ck_14 : pm_ckM pmT pmM_14 = true := by decide +kernel
set_option maxRecDepth 100000 in
theorem ck_15 : pm_ckM pmT pmM_15 = true := by decide +kernel
set_option maxRecDepth 100000 in
theorem ck_16 : pm_ckM pmT pmM_16 = true := by decide +kernel
set_option maxRecDepth 100000 in
theorem ck_17 : pm_ckM pmT pmM_17 = true := by decide +kernel
set_option maxRecDepth 100000 in
theorem ck_18 : pm_ckM pmT pmM_18 = true := by decide +kernel
set_option maxRecDepth 100000 in
theorem ck_19 : pm_ckM pmT pmM_19 = true := by decide +kernel
set_option maxRecDepth 100000 in
theorem ck_20 : pm_ckM pmT pmM_20 = true := by decide +kernel
set_option maxRecDepth 100000 in
theorem ck_21 : pm_ckM pmT pmM_21 = true := by decide +kernel
set_option maxRecDepth 100000 in
theorem ck_22 : pm_ckM pmT pmM_22 = true := by decide +kernel
set_option maxRecDepth 100000 in
theorem ck_23 : pm_ckM pmT pmM_23 = true := by decide +kernel
set_option maxRecDepth 100000 in
theorem ck_24 : pm_ckM pmT pmM_24 = true := by decide +kernel
set_option maxRecDepth 100000 in
theorem ck_25 : pm_ckM pmT pmM_25 = true := by decide +kernel
set_option maxRecDepth 100000 in
theorem ck_26 : pm_ckM pmT pmM_26 = true := by decide +kernel
set_option maxRecDepth 100000 in
theorem ck_27 : pm_ckM pmT pmM_27 = true := by decide +kernel
set_option maxRecDepth 100000 in
theorem ck_28 : pm_ckM pmT pmM_28 = true := by decide +kernel
set_option maxRecDepth 100000 in
theorem ck_29 : pm_ckM pmT pmM_29 = true := by decide +kernel
set_option maxRecDepth 100000 in
theorem ck_30 : pm_ckM pmT pmM_30 = true := by decide +kernel
set_option maxRecDepth 100000 in
theorem ck_31 : pm_ckM pmT pmM_31 = true := by decide +kernel
set_option maxRecDepth 100000 in
theorem ck_32 : pm_ckM pmT pmM_32 = true := by decide +kernel
set_option maxRecDepth 100000 in
theorem ck_33 : pm_ckM pmT pmM_33 = true := by decide +kernel
set_option maxRecDepth 100000 in
theorem ck_34 : pm_ckM pmT pmM_34 = true := by decide +kernel
set_option maxRecDepth 100000 in
theorem ck_35 : pm_ckM pmT pmM_35 = true := by decide +kernel
set_option maxRecDepth 100000 in
theorem ck_36 : pm_ckM pmT pmM_36 = true := by decide +kernel
set_option maxRecDepth 100000 in
theorem ck_37 : pm_ckM pmT pmM_37 = true := by decide +kernel
set_option maxRecDepth 100000 in
theorem ck_38 : pm_ckM pmT pmM_38 = true := by decide +kernel
set_option maxRecDepth 100000 in
theorem ck_39 : pm_ckM pmT pmM_39 = true := by decide +kernel
set_option maxRecDepth 100000 in
theorem ck_40 : pm_ckM pmT pmM_40 = true := by decide +kernel
set_option maxRecDepth 100000 in
theorem ck_41 : pm_ckM pmT pmM_41 = true := by decide +kernel
set_option maxRecDepth 100000 in
theorem ck_42 : pm_ckM pmT pmM_42 = true := by decide +kernel
set_option maxRecDepth 100000 in
theorem ck_43 : pm_ckM pmT pmM_43 = true := by decide +kernel
set_option maxRecDepth 100000 in
theorem ck_44 : pm_ckM pmT pmM_44 = true := by decide +kernel
set_option maxRecDepth 100000 in
theorem ck_45 : pm_ckM pmT pmM_45 = true := by decide +kernel
set_option maxRecDepth 100000 in
theorem ck_46 : pm_ckM pmT pmM_46 = true := by decide +kernel
set_option maxRecDepth 100000 in
theorem ck_47 : pm_ckM pmT pmM_47 = true := by decide +kernel
set_option maxRecDepth 100000 in
theorem ck_48 : pm_ckM pmT pmM_48 = true := by decide +kernel
set_option maxRecDepth 100000 in
theorem ck_49 : pm_ckM pmT pmM_49 = true := by decide +kernel
set_option maxRecDepth 100000 in
theorem ck_50 : pm_ckM pmT pmM_50 = true := by decide +kernel
set_option maxRecDepth 100000 in
theorem ck_51 : pm_ckM pmT pmM_51 = true := by decide +kernel
set_option maxRecDepth 100000 in
theorem ck_52 : pm_ckM pmT pmM_52 = true := by decide +kernel
set_option maxRecDepth 100000 in
theorem ck_53 : pm_ckM pmT pmM_53 = true := by decide +kernel
set_option maxRecDepth 100000 in
theorem ck_54 : pm_ckM pmT pmM_54 = true := by decide +kernel
set_option maxRecDepth 100000 in
theorem ck_55 : pm_ckM pmT pmM_55 = true := by decide +kernel
set_option maxRecDepth 100000 in
theorem ck_56 : pm_ckM pmT pmM_56 = true := by decide +kernel
set_option maxRecDepth 100000 in
theorem ck_57 : pm_ckM pmT pmM_57 = true := by decide +kernel
set_option maxRecDepth 100000 in
theorem ck_58 : pm_ckM pmT pmM_58 = true := by decide +kernel
set_option maxRecDepth 100000 in
theorem ck_59 : pm_ckM pmT pmM_59 = true := by decide +kernel
