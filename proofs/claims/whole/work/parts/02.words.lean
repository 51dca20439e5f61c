theorem TB_0 {i : Nat} {w : Cond} (h : (k2_sels lw_privs)[i]? = some w) (g : goodWord w = true) : w ∈ TB := List.mem_filter.mpr ⟨List.mem_append_left _ (List.mem_of_getElem? h), g⟩
theorem TB_1 {i : Nat} {w : Cond} (h : tables_1_1[i]? = some w) (g : goodWord w = true) : w ∈ TB := List.mem_filter.mpr ⟨List.mem_append_right _ (List.mem_append_left _ (List.mem_of_getElem? h)), g⟩
theorem TB_2 {i : Nat} {w : Cond} (h : tables_1_2[i]? = some w) (g : goodWord w = true) : w ∈ TB := List.mem_filter.mpr ⟨List.mem_append_right _ (List.mem_append_right _ (List.mem_append_left _ (List.mem_of_getElem? h))), g⟩
theorem TB_3 {i : Nat} {w : Cond} (h : tables_1_3[i]? = some w) (g : goodWord w = true) : w ∈ TB := List.mem_filter.mpr ⟨List.mem_append_right _ (List.mem_append_right _ (List.mem_append_right _ (List.mem_append_left _ (List.mem_of_getElem? h)))), g⟩
theorem TB_4 {i : Nat} {w : Cond} (h : tables_1_4[i]? = some w) (g : goodWord w = true) : w ∈ TB := List.mem_filter.mpr ⟨List.mem_append_right _ (List.mem_append_right _ (List.mem_append_right _ (List.mem_append_right _ (List.mem_append_left _ (List.mem_of_getElem? h))))), g⟩
theorem TB_5 {i : Nat} {w : Cond} (h : tables_1_5[i]? = some w) (g : goodWord w = true) : w ∈ TB := List.mem_filter.mpr ⟨List.mem_append_right _ (List.mem_append_right _ (List.mem_append_right _ (List.mem_append_right _ (List.mem_append_right _ (List.mem_append_left _ (List.mem_of_getElem? h)))))), g⟩
theorem TB_6 {i : Nat} {w : Cond} (h : tables_1_6[i]? = some w) (g : goodWord w = true) : w ∈ TB := List.mem_filter.mpr ⟨List.mem_append_right _ (List.mem_append_right _ (List.mem_append_right _ (List.mem_append_right _ (List.mem_append_right _ (List.mem_append_right _ (List.mem_append_left _ (List.mem_of_getElem? h))))))), g⟩
theorem TB_7 {i : Nat} {w : Cond} (h : tables_1_7[i]? = some w) (g : goodWord w = true) : w ∈ TB := List.mem_filter.mpr ⟨List.mem_append_right _ (List.mem_append_right _ (List.mem_append_right _ (List.mem_append_right _ (List.mem_append_right _ (List.mem_append_right _ (List.mem_append_right _ (List.mem_append_left _ (List.mem_of_getElem? h)))))))), g⟩
theorem TB_8 {i : Nat} {w : Cond} (h : tables_1_8[i]? = some w) (g : goodWord w = true) : w ∈ TB := List.mem_filter.mpr ⟨List.mem_append_right _ (List.mem_append_right _ (List.mem_append_right _ (List.mem_append_right _ (List.mem_append_right _ (List.mem_append_right _ (List.mem_append_right _ (List.mem_append_right _ (List.mem_append_left _ (List.mem_of_getElem? h))))))))), g⟩
theorem TB_9 {i : Nat} {w : Cond} (h : tables_1_9[i]? = some w) (g : goodWord w = true) : w ∈ TB := List.mem_filter.mpr ⟨List.mem_append_right _ (List.mem_append_right _ (List.mem_append_right _ (List.mem_append_right _ (List.mem_append_right _ (List.mem_append_right _ (List.mem_append_right _ (List.mem_append_right _ (List.mem_append_right _ (List.mem_of_getElem? h))))))))), g⟩
set_option maxRecDepth 4000 in
theorem wd_0 : (Cond.selects RX9 yX9_isSession yX9_isSession) ∈ TB := TB_0 (i := 0) rfl rfl
set_option maxRecDepth 4000 in
theorem wd_1 : (Cond.selects RX9 yX9_isSeat yX9_isSeat) ∈ TB := TB_0 (i := 1) rfl rfl
set_option maxRecDepth 4000 in
theorem wd_2 : (Cond.selects RX9 yX9_isPlayer yX9_isPlayer) ∈ TB := TB_0 (i := 2) rfl rfl
set_option maxRecDepth 4000 in
theorem wd_3 : (Cond.selects RX9 yX9_isLand yX9_isLand) ∈ TB := TB_0 (i := 3) rfl rfl
set_option maxRecDepth 4000 in
theorem wd_4 : (Cond.selects RX9 yX9_isPlay yX9_isPlay) ∈ TB := TB_0 (i := 4) rfl rfl
set_option maxRecDepth 4000 in
theorem wd_5 : (Cond.selects RX9 yX9_isTooMuch yX9_isTooMuch) ∈ TB := TB_0 (i := 5) rfl rfl
set_option maxRecDepth 4000 in
theorem wd_6 : (Cond.selects RX9 yX9_claimBar yX9_claimBar) ∈ TB := TB_0 (i := 6) rfl rfl
set_option maxRecDepth 4000 in
theorem wd_7 : (Cond.selects RX9 yX9_partBar yX9_partBar) ∈ TB := TB_0 (i := 7) rfl rfl
set_option maxRecDepth 4000 in
theorem wd_8 : (Cond.selects RX9 yX9_partBox yX9_partBox) ∈ TB := TB_0 (i := 8) rfl rfl
set_option maxRecDepth 4000 in
theorem wd_9 : (Cond.selects RX9 yX9_paidSomewhere yX9_paidSomewhere) ∈ TB := TB_0 (i := 9) rfl rfl
set_option maxRecDepth 4000 in
theorem wd_10 : (Cond.selects RX9 yX9_rankOf yX9_rankOf) ∈ TB := TB_0 (i := 10) rfl rfl
set_option maxRecDepth 4000 in
theorem wd_11 : (Cond.selects RX9 yX9_moneyOfLand yX9_moneyOfLand) ∈ TB := TB_0 (i := 11) rfl rfl
set_option maxRecDepth 4000 in
theorem wd_12 : (Cond.selects RX9 yX9_claimWorth yX9_claimWorth) ∈ TB := TB_0 (i := 12) rfl rfl
set_option maxRecDepth 4000 in
theorem wd_13 : (Cond.selects RX9 yX9_roundFrom yX9_roundFrom) ∈ TB := TB_0 (i := 13) rfl rfl
set_option maxRecDepth 4000 in
theorem wd_14 : (Cond.selects "java/lang/Throwable" ⟨"java/lang/Throwable", "fillInStackTrace", "(I)Ljava/lang/Throwable;"⟩ ⟨"java/lang/Throwable", "fillInStackTrace", "(I)Ljava/lang/Throwable;"⟩) ∈ TB := TB_0 (i := 14) rfl rfl
set_option maxRecDepth 4000 in
theorem wd_15 : (Cond.selects RX10 yX10_opens yX10_opens) ∈ TB := TB_0 (i := 15) rfl rfl
set_option maxRecDepth 4000 in
theorem wd_16 : (Cond.selects RX10 yX10_token yX10_token) ∈ TB := TB_0 (i := 16) rfl rfl
set_option maxRecDepth 4000 in
theorem wd_17 : (Cond.selects RX10 yX10_here yX10_here) ∈ TB := TB_0 (i := 17) rfl rfl
set_option maxRecDepth 4000 in
theorem wd_18 : (Cond.selects RX10 yX10_wordHere yX10_wordHere) ∈ TB := TB_0 (i := 18) rfl rfl
set_option maxRecDepth 4000 in
theorem wd_19 : (Cond.selects RX10 yX10_readLine yX10_readLine) ∈ TB := TB_0 (i := 19) rfl rfl
set_option maxRecDepth 4000 in
theorem wd_20 : (Cond.selects RX10 yX10_readLand yX10_readLand) ∈ TB := TB_0 (i := 20) rfl rfl
set_option maxRecDepth 4000 in
theorem wd_21 : (Cond.selects RX10 yX10_wrong yX10_wrong) ∈ TB := TB_0 (i := 21) rfl rfl
set_option maxRecDepth 4000 in
theorem wd_22 : (Cond.selects RX10 yX10_newName yX10_newName) ∈ TB := TB_0 (i := 22) rfl rfl
set_option maxRecDepth 4000 in
theorem wd_23 : (Cond.selects RX10 yX10_goOn yX10_goOn) ∈ TB := TB_0 (i := 23) rfl rfl
set_option maxRecDepth 4000 in
theorem wd_24 : (Cond.selects RX10 yX10_isOther yX10_isOther) ∈ TB := TB_0 (i := 24) rfl rfl
set_option maxRecDepth 4000 in
theorem wd_25 : (Cond.selects RX10 yX10_named yX10_named) ∈ TB := TB_0 (i := 25) rfl rfl
set_option maxRecDepth 4000 in
theorem wd_26 : (Cond.selects RX10 yX10_among yX10_among) ∈ TB := TB_0 (i := 26) rfl rfl
set_option maxRecDepth 4000 in
theorem wd_27 : (Cond.selects RX10 yX10_number yX10_number) ∈ TB := TB_0 (i := 27) rfl rfl
set_option maxRecDepth 4000 in
theorem wd_28 : (Cond.selects RX10 yX10_isEnd yX10_isEnd) ∈ TB := TB_0 (i := 28) rfl rfl
set_option maxRecDepth 4000 in
theorem wd_29 : (Cond.selects RX10 yX10_readPlayer yX10_readPlayer) ∈ TB := TB_0 (i := 29) rfl rfl
set_option maxRecDepth 4000 in
theorem wd_30 : (Cond.selects RX10 yX10_readSession yX10_readSession) ∈ TB := TB_0 (i := 30) rfl rfl
set_option maxRecDepth 4000 in
theorem wd_31 : (Cond.selects RX10 yX10_readOne yX10_readOne) ∈ TB := TB_0 (i := 31) rfl rfl
set_option maxRecDepth 4000 in
theorem wd_32 : (Cond.selects RX10 yX10_readLead yX10_readLead) ∈ TB := TB_0 (i := 32) rfl rfl
set_option maxRecDepth 4000 in
theorem wd_33 : (Cond.selects RX10 yX10_readKeep yX10_readKeep) ∈ TB := TB_0 (i := 33) rfl rfl
set_option maxRecDepth 4000 in
theorem wd_34 : (Cond.selects RX10 yX10_takesText yX10_takesText) ∈ TB := TB_0 (i := 34) rfl rfl
set_option maxRecDepth 4000 in
theorem wd_35 : (Cond.selects RX10 yX10_isLand yX10_isLand) ∈ TB := TB_0 (i := 35) rfl rfl
set_option maxRecDepth 4000 in
theorem wd_36 : (Cond.selects RX10 yX10_paidIn yX10_paidIn) ∈ TB := TB_0 (i := 36) rfl rfl
set_option maxRecDepth 4000 in
theorem wd_37 : (Cond.selects RX10 yX10_keptIn yX10_keptIn) ∈ TB := TB_0 (i := 37) rfl rfl
set_option maxRecDepth 4000 in
theorem wd_38 : (Cond.selects RX10 yX10_isPlayer yX10_isPlayer) ∈ TB := TB_0 (i := 38) rfl rfl
set_option maxRecDepth 4000 in
theorem wd_39 : (Cond.selects RX10 yX10_paidAll yX10_paidAll) ∈ TB := TB_0 (i := 39) rfl rfl
set_option maxRecDepth 4000 in
theorem wd_40 : (Cond.selects RX10 yX10_weightAll yX10_weightAll) ∈ TB := TB_0 (i := 40) rfl rfl
set_option maxRecDepth 4000 in
theorem wd_41 : (Cond.selects RX10 yX10_weightIn yX10_weightIn) ∈ TB := TB_0 (i := 41) rfl rfl
set_option maxRecDepth 4000 in
theorem wd_42 : (Cond.selects RX10 yX10_roleOf yX10_roleOf) ∈ TB := TB_0 (i := 42) rfl rfl
set_option maxRecDepth 4000 in
theorem wd_43 : (Cond.selects RX10 yX10_owner yX10_owner) ∈ TB := TB_0 (i := 43) rfl rfl
set_option maxRecDepth 4000 in
theorem wd_44 : (Cond.selects RX10 yX10_paidByOf yX10_paidByOf) ∈ TB := TB_0 (i := 44) rfl rfl
set_option maxRecDepth 4000 in
theorem wd_45 : (Cond.selects RX10 yX10_doesPay yX10_doesPay) ∈ TB := TB_0 (i := 45) rfl rfl
set_option maxRecDepth 4000 in
theorem wd_46 : (Cond.selects RX10 yX10_isSession yX10_isSession) ∈ TB := TB_0 (i := 46) rfl rfl
set_option maxRecDepth 4000 in
theorem wd_47 : (Cond.selects RX10 yX10_manyOf yX10_manyOf) ∈ TB := TB_0 (i := 47) rfl rfl
set_option maxRecDepth 4000 in
theorem wd_48 : (Cond.selects RX10 yX10_openOf yX10_openOf) ∈ TB := TB_0 (i := 48) rfl rfl
set_option maxRecDepth 4000 in
theorem wd_49 : (Cond.selects RX10 yX10_keptOf yX10_keptOf) ∈ TB := TB_0 (i := 49) rfl rfl
set_option maxRecDepth 4000 in
theorem wd_50 : (Cond.selects RX10 yX10_isSeat yX10_isSeat) ∈ TB := TB_0 (i := 50) rfl rfl
set_option maxRecDepth 4000 in
theorem wd_51 : (Cond.selects RX10 yX10_doAnswer yX10_doAnswer) ∈ TB := TB_0 (i := 51) rfl rfl
set_option maxRecDepth 4000 in
theorem wd_52 : (Cond.selects RX10 yX10_ringOf yX10_ringOf) ∈ TB := TB_0 (i := 52) rfl rfl
set_option maxRecDepth 4000 in
theorem wd_53 : (Cond.selects RX10 yX10_isTooMuch yX10_isTooMuch) ∈ TB := TB_0 (i := 53) rfl rfl
set_option maxRecDepth 4000 in
theorem wd_54 : (Cond.selects RX10 yX10_keeps yX10_keeps) ∈ TB := TB_0 (i := 54) rfl rfl
set_option maxRecDepth 4000 in
theorem wd_55 : (Cond.selects RX10 yX10_sumOf yX10_sumOf) ∈ TB := TB_0 (i := 55) rfl rfl
set_option maxRecDepth 4000 in
theorem wd_56 : (Cond.selects RX10 yX10_laysShares yX10_laysShares) ∈ TB := TB_0 (i := 56) rfl rfl
set_option maxRecDepth 4000 in
theorem wd_57 : (Cond.selects RX10 yX10_whole yX10_whole) ∈ TB := TB_0 (i := 57) rfl rfl
set_option maxRecDepth 4000 in
theorem wd_58 : (Cond.selects RX10 yX10_roleAt yX10_roleAt) ∈ TB := TB_0 (i := 58) rfl rfl
set_option maxRecDepth 4000 in
theorem wd_59 : (Cond.selects RX10 yX10_where yX10_where) ∈ TB := TB_0 (i := 59) rfl rfl
set_option maxRecDepth 4000 in
theorem wd_60 : (Cond.selects RX10 yX10_whose yX10_whose) ∈ TB := TB_0 (i := 60) rfl rfl
set_option maxRecDepth 4000 in
theorem wd_61 : (Cond.selects RX10 yX10_pays_ yX10_pays_) ∈ TB := TB_0 (i := 61) rfl rfl
set_option maxRecDepth 4000 in
theorem wd_62 : (Cond.selects RX10 yX10_goesYear yX10_goesYear) ∈ TB := TB_0 (i := 62) rfl rfl
set_option maxRecDepth 4000 in
theorem wd_63 : (Cond.selects RX10 yX10_whyNoClaim yX10_whyNoClaim) ∈ TB := TB_0 (i := 63) rfl rfl
set_option maxRecDepth 4000 in
theorem wd_64 : (Cond.selects RX10 yX10_openSeat yX10_openSeat) ∈ TB := TB_0 (i := 64) rfl rfl
set_option maxRecDepth 4000 in
theorem wd_65 : (Cond.selects RX10 yX10_broughtBy yX10_broughtBy) ∈ TB := TB_0 (i := 65) rfl rfl
set_option maxRecDepth 4000 in
theorem wd_66 : (Cond.selects RX10 yX10_empties yX10_empties) ∈ TB := TB_0 (i := 66) rfl rfl
set_option maxRecDepth 4000 in
theorem wd_67 : (Cond.selects RX10 yX10_whyNoPart yX10_whyNoPart) ∈ TB := TB_0 (i := 67) rfl rfl
set_option maxRecDepth 4000 in
theorem wd_68 : (Cond.selects RX10 yX10_allWeights yX10_allWeights) ∈ TB := TB_0 (i := 68) rfl rfl
set_option maxRecDepth 4000 in
theorem wd_69 : (Cond.selects RX10 yX10_parts yX10_parts) ∈ TB := TB_0 (i := 69) rfl rfl
set_option maxRecDepth 4000 in
theorem wd_70 : (Cond.selects RX10 yX10_laysParts yX10_laysParts) ∈ TB := TB_0 (i := 70) rfl rfl
set_option maxRecDepth 4000 in
theorem wd_71 : (Cond.selects RX10 yX10_keptFor yX10_keptFor) ∈ TB := TB_0 (i := 71) rfl rfl
set_option maxRecDepth 4000 in
theorem wd_72 : (Cond.selects RX10 yX10_paidTo yX10_paidTo) ∈ TB := TB_0 (i := 72) rfl rfl
set_option maxRecDepth 4000 in
theorem wd_73 : (Cond.selects RX10 yX10_lends yX10_lends) ∈ TB := TB_0 (i := 73) rfl rfl
set_option maxRecDepth 4000 in
theorem wd_74 : (Cond.selects RX10 yX10_back yX10_back) ∈ TB := TB_0 (i := 74) rfl rfl
set_option maxRecDepth 4000 in
theorem wd_75 : (Cond.selects RX10 yX10_paidFor yX10_paidFor) ∈ TB := TB_0 (i := 75) rfl rfl
set_option maxRecDepth 4000 in
theorem wd_76 : (Cond.selects RX10 yX10_paidOver yX10_paidOver) ∈ TB := TB_0 (i := 76) rfl rfl
set_option maxRecDepth 4000 in
theorem wd_77 : (Cond.selects RX10 yX10_netOf yX10_netOf) ∈ TB := TB_0 (i := 77) rfl rfl
set_option maxRecDepth 4000 in
theorem wd_78 : (Cond.selects RX10 yX10_toPlayersOf yX10_toPlayersOf) ∈ TB := TB_0 (i := 78) rfl rfl
set_option maxRecDepth 4000 in
theorem wd_79 : (Cond.selects RX10 yX10_roundOf yX10_roundOf) ∈ TB := TB_0 (i := 79) rfl rfl
set_option maxRecDepth 4000 in
theorem wd_80 : (Cond.selects RX10 yX10_sumIn yX10_sumIn) ∈ TB := TB_0 (i := 80) rfl rfl
set_option maxRecDepth 4000 in
theorem wd_81 : (Cond.selects RX10 yX10_openAll yX10_openAll) ∈ TB := TB_0 (i := 81) rfl rfl
set_option maxRecDepth 4000 in
theorem wd_82 : (Cond.initialized RL) ∈ TB := TB_1 (i := 0) rfl rfl
set_option maxRecDepth 4000 in
theorem wd_83 : (Cond.initialized RX9) ∈ TB := TB_1 (i := 1) rfl rfl
set_option maxRecDepth 4000 in
theorem wd_84 : (Cond.initialized RX4) ∈ TB := TB_1 (i := 2) rfl rfl
set_option maxRecDepth 4000 in
theorem wd_85 : (Cond.initialized RX7) ∈ TB := TB_1 (i := 3) rfl rfl
set_option maxRecDepth 4000 in
theorem wd_86 : (Cond.initialized RX0) ∈ TB := TB_1 (i := 4) rfl rfl
set_option maxRecDepth 4000 in
theorem wd_87 : (Cond.initialized RX8) ∈ TB := TB_1 (i := 5) rfl rfl
set_option maxRecDepth 4000 in
theorem wd_88 : (Cond.initialized RX2) ∈ TB := TB_1 (i := 6) rfl rfl
set_option maxRecDepth 4000 in
theorem wd_89 : (Cond.initialized RX3) ∈ TB := TB_1 (i := 7) rfl rfl
set_option maxRecDepth 4000 in
theorem wd_90 : (Cond.initialized RX6) ∈ TB := TB_1 (i := 8) rfl rfl
set_option maxRecDepth 4000 in
theorem wd_91 : (Cond.initialized RX1) ∈ TB := TB_1 (i := 9) rfl rfl
set_option maxRecDepth 4000 in
theorem wd_92 : (Cond.initialized RX5) ∈ TB := TB_1 (i := 10) rfl rfl
set_option maxRecDepth 4000 in
theorem wd_93 : (Cond.initialized RX10) ∈ TB := TB_1 (i := 11) rfl rfl
set_option maxRecDepth 4000 in
theorem wd_94 : (Cond.initialized RJ9) ∈ TB := TB_1 (i := 12) rfl rfl
set_option maxRecDepth 4000 in
theorem wd_95 : (Cond.initialized RJ0) ∈ TB := TB_1 (i := 13) rfl rfl
set_option maxRecDepth 4000 in
theorem wd_96 : (Cond.initialized RJ1) ∈ TB := TB_1 (i := 14) rfl rfl
set_option maxRecDepth 4000 in
theorem wd_97 : (Cond.initialized RJ3) ∈ TB := TB_1 (i := 15) rfl rfl
set_option maxRecDepth 4000 in
theorem wd_98 : (Cond.initialized RJ2) ∈ TB := TB_1 (i := 16) rfl rfl
set_option maxRecDepth 4000 in
theorem wd_99 : (Cond.initialized RJ10) ∈ TB := TB_1 (i := 17) rfl rfl
set_option maxRecDepth 4000 in
theorem wd_100 : (Cond.initialized RJ7) ∈ TB := TB_1 (i := 18) rfl rfl
set_option maxRecDepth 4000 in
theorem wd_101 : (Cond.initialized "java/lang/Throwable") ∈ TB := TB_1 (i := 19) rfl rfl
set_option maxRecDepth 4000 in
theorem wd_102 : (Cond.initialized "java/lang/Exception") ∈ TB := TB_1 (i := 20) rfl rfl
set_option maxRecDepth 4000 in
theorem wd_103 : (Cond.initialized "java/lang/RuntimeException") ∈ TB := TB_1 (i := 21) rfl rfl
set_option maxRecDepth 4000 in
theorem wd_104 : (Cond.initialized "java/lang/IndexOutOfBoundsException") ∈ TB := TB_1 (i := 22) rfl rfl
set_option maxRecDepth 4000 in
theorem wd_105 : (Cond.initialized "java/util/NoSuchElementException") ∈ TB := TB_1 (i := 23) rfl rfl
set_option maxRecDepth 4000 in
theorem wd_106 : (Cond.initialized RJ6) ∈ TB := TB_1 (i := 24) rfl rfl
set_option maxRecDepth 4000 in
theorem wd_107 : (Cond.classLink RL 8 RX9) ∈ TB := TB_1 (i := 25) rfl rfl
set_option maxRecDepth 4000 in
theorem wd_108 : (Cond.instantiable RX9 9) ∈ TB := TB_1 (i := 26) rfl rfl
set_option maxRecDepth 4000 in
theorem wd_109 : (Cond.methodLink RL 23 yX9_init) ∈ TB := TB_1 (i := 27) rfl rfl
set_option maxRecDepth 4000 in
theorem wd_110 : (Cond.instanceMethod yX9_init) ∈ TB := TB_1 (i := 28) rfl rfl
set_option maxRecDepth 4000 in
theorem wd_111 : (Cond.code yX9_init cX9_init 1 none) ∈ TB := TB_1 (i := 29) rfl rfl
set_option maxRecDepth 4000 in
theorem wd_112 : (Cond.methodLink RX9 1 objectInit) ∈ TB := TB_1 (i := 30) rfl rfl
set_option maxRecDepth 4000 in
theorem wd_113 : (Cond.instanceMethod objectInit) ∈ TB := TB_1 (i := 31) rfl rfl
set_option maxRecDepth 4000 in
theorem wd_114 : (Cond.code objectInit object_method_1_code 1 none) ∈ TB := TB_1 (i := 32) rfl rfl
set_option maxRecDepth 4000 in
theorem wd_115 : (Cond.classLink RX9 7 RX4) ∈ TB := TB_1 (i := 33) rfl rfl
set_option maxRecDepth 4000 in
theorem wd_116 : (Cond.instantiable RX4 9) ∈ TB := TB_1 (i := 34) rfl rfl
set_option maxRecDepth 4000 in
theorem wd_118 : (Cond.instanceMethod yX4_init) ∈ TB := TB_1 (i := 36) rfl rfl
set_option maxRecDepth 4000 in
theorem wd_119 : (Cond.code yX4_init cX4_init 1 none) ∈ TB := TB_1 (i := 37) rfl rfl
set_option maxRecDepth 4000 in
theorem wd_120 : (Cond.methodLink RX4 3 objectInit) ∈ TB := TB_1 (i := 38) rfl rfl
set_option maxRecDepth 4000 in
theorem wd_121 : (Cond.classLink RX4 9 RX7) ∈ TB := TB_1 (i := 39) rfl rfl
set_option maxRecDepth 4000 in
theorem wd_122 : (Cond.instantiable RX7 7) ∈ TB := TB_1 (i := 40) rfl rfl
set_option maxRecDepth 4000 in
theorem wd_124 : (Cond.instanceMethod yX7_init) ∈ TB := TB_1 (i := 42) rfl rfl
set_option maxRecDepth 4000 in
theorem wd_125 : (Cond.code yX7_init cX7_init 1 none) ∈ TB := TB_1 (i := 43) rfl rfl
set_option maxRecDepth 4000 in
theorem wd_126 : (Cond.methodLink RX7 3 objectInit) ∈ TB := TB_1 (i := 44) rfl rfl
set_option maxRecDepth 4000 in
theorem wd_127 : (Cond.fieldLink RX7 9 "RightsPool$Tape" "bytes" "[I") ∈ TB := TB_1 (i := 45) rfl rfl
set_option maxRecDepth 4000 in
theorem wd_128 : (Cond.fieldLink RX7 15 "RightsPool$Tape" "kind" "[I") ∈ TB := TB_1 (i := 46) rfl rfl
set_option maxRecDepth 4000 in
theorem wd_129 : (Cond.fieldLink RX4 62 "RightsPool$Tape" "kind" "[I") ∈ TB := TB_1 (i := 47) rfl rfl
set_option maxRecDepth 4000 in
theorem wd_130 : (Cond.fieldLink RX7 18 "RightsPool$Tape" "place" "[I") ∈ TB := TB_1 (i := 48) rfl rfl
set_option maxRecDepth 4000 in
theorem wd_131 : (Cond.fieldLink RX4 155 "RightsPool$Tape" "place" "[I") ∈ TB := TB_1 (i := 49) rfl rfl
set_option maxRecDepth 4000 in
theorem wd_132 : (Cond.fieldLink RX7 21 "RightsPool$Tape" "value" "[J") ∈ TB := TB_1 (i := 50) rfl rfl
set_option maxRecDepth 4000 in
theorem wd_133 : (Cond.fieldLink RX4 158 "RightsPool$Tape" "value" "[J") ∈ TB := TB_1 (i := 51) rfl rfl
set_option maxRecDepth 4000 in
theorem wd_134 : (Cond.fieldLink RX9 72 "RightsPool$Tape" "size" "I") ∈ TB := TB_1 (i := 52) rfl rfl
set_option maxRecDepth 4000 in
theorem wd_135 : (Cond.fieldLink RX7 25 "RightsPool$Tape" "size" "I") ∈ TB := TB_1 (i := 53) rfl rfl
set_option maxRecDepth 4000 in
theorem wd_136 : (Cond.fieldLink RX7 35 "RightsPool$Tape" "end" "I") ∈ TB := TB_1 (i := 54) rfl rfl
set_option maxRecDepth 4000 in
theorem wd_137 : (Cond.fieldLink RX7 38 "RightsPool$Tape" "at" "I") ∈ TB := TB_1 (i := 55) rfl rfl
set_option maxRecDepth 4000 in
theorem wd_153 : (Cond.arrayClass .int) ∈ TB := TB_1 (i := 71) rfl rfl
set_option maxRecDepth 4000 in
theorem wd_154 : (Cond.arrayClass .long) ∈ TB := TB_1 (i := 72) rfl rfl
set_option maxRecDepth 4000 in
theorem wd_155 : (Cond.fieldLink RX4 12 "RightsPool$Reader" "tape" "LRightsPool$Tape;") ∈ TB := TB_1 (i := 73) rfl rfl
set_option maxRecDepth 4000 in
theorem wd_156 : (Cond.fieldLink RX9 68 "RightsPool$Reader" "tape" "LRightsPool$Tape;") ∈ TB := TB_1 (i := 74) rfl rfl
set_option maxRecDepth 4000 in
theorem wd_157 : (Cond.fieldLink RX4 18 "RightsPool$Reader" "landName" "[J") ∈ TB := TB_1 (i := 75) rfl rfl
set_option maxRecDepth 4000 in
theorem wd_158 : (Cond.fieldLink RX4 22 "RightsPool$Reader" "playerName" "[J") ∈ TB := TB_1 (i := 76) rfl rfl
set_option maxRecDepth 4000 in
theorem wd_159 : (Cond.fieldLink RX4 25 "RightsPool$Reader" "sessionName" "[J") ∈ TB := TB_1 (i := 77) rfl rfl
set_option maxRecDepth 4000 in
theorem wd_160 : (Cond.fieldLink RX4 41 "RightsPool$Reader" "token" "I") ∈ TB := TB_1 (i := 78) rfl rfl
set_option maxRecDepth 4000 in
theorem wd_161 : (Cond.fieldLink RX4 44 "RightsPool$Reader" "leadTold" "Z") ∈ TB := TB_1 (i := 79) rfl rfl
set_option maxRecDepth 4000 in
theorem wd_162 : (Cond.fieldLink RX4 48 "RightsPool$Reader" "keepTold" "Z") ∈ TB := TB_1 (i := 80) rfl rfl
set_option maxRecDepth 4000 in
theorem wd_163 : (Cond.fieldLink RX4 51 "RightsPool$Reader" "fault" "I") ∈ TB := TB_1 (i := 81) rfl rfl
set_option maxRecDepth 4000 in
theorem wd_164 : (Cond.fieldLink RX9 96 "RightsPool$Reader" "fault" "I") ∈ TB := TB_1 (i := 82) rfl rfl
set_option maxRecDepth 4000 in
theorem wd_165 : (Cond.fieldLink RX4 28 "RightsPool$Reader" "faultPlace" "I") ∈ TB := TB_1 (i := 83) rfl rfl
set_option maxRecDepth 4000 in
theorem wd_166 : (Cond.fieldLink RX9 99 "RightsPool$Reader" "faultPlace" "I") ∈ TB := TB_1 (i := 84) rfl rfl
set_option maxRecDepth 4000 in
theorem wd_186 : (Cond.classLink RX9 16 RX0) ∈ TB := TB_1 (i := 104) rfl rfl
set_option maxRecDepth 4000 in
theorem wd_187 : (Cond.instantiable RX0 10) ∈ TB := TB_1 (i := 105) rfl rfl
set_option maxRecDepth 4000 in
theorem wd_189 : (Cond.instanceMethod yX0_init) ∈ TB := TB_1 (i := 107) rfl rfl
set_option maxRecDepth 4000 in
theorem wd_190 : (Cond.code yX0_init cX0_init 1 none) ∈ TB := TB_1 (i := 108) rfl rfl
set_option maxRecDepth 4000 in
theorem wd_191 : (Cond.methodLink RX0 3 objectInit) ∈ TB := TB_1 (i := 109) rfl rfl
set_option maxRecDepth 4000 in
theorem wd_192 : (Cond.classLink RX0 9 RX8) ∈ TB := TB_1 (i := 110) rfl rfl
set_option maxRecDepth 4000 in
theorem wd_193 : (Cond.instantiable RX8 4) ∈ TB := TB_1 (i := 111) rfl rfl
set_option maxRecDepth 4000 in
theorem wd_195 : (Cond.instanceMethod yX8_init) ∈ TB := TB_1 (i := 113) rfl rfl
set_option maxRecDepth 4000 in
theorem wd_196 : (Cond.code yX8_init cX8_init 1 none) ∈ TB := TB_1 (i := 114) rfl rfl
set_option maxRecDepth 4000 in
theorem wd_197 : (Cond.methodLink RX8 3 objectInit) ∈ TB := TB_1 (i := 115) rfl rfl
set_option maxRecDepth 4000 in
theorem wd_198 : (Cond.fieldLink RX8 9 "RightsPool$World" "term" "[I") ∈ TB := TB_1 (i := 116) rfl rfl
set_option maxRecDepth 4000 in
theorem wd_199 : (Cond.fieldLink RX9 116 "RightsPool$World" "term" "[I") ∈ TB := TB_1 (i := 117) rfl rfl
set_option maxRecDepth 4000 in
theorem wd_200 : (Cond.fieldLink RX8 15 "RightsPool$World" "roles" "[I") ∈ TB := TB_1 (i := 118) rfl rfl
set_option maxRecDepth 4000 in
theorem wd_201 : (Cond.fieldLink RX9 120 "RightsPool$World" "roles" "[I") ∈ TB := TB_1 (i := 119) rfl rfl
set_option maxRecDepth 4000 in
theorem wd_202 : (Cond.fieldLink RX8 18 "RightsPool$World" "home" "[I") ∈ TB := TB_1 (i := 120) rfl rfl
set_option maxRecDepth 4000 in
theorem wd_203 : (Cond.fieldLink RX9 153 "RightsPool$World" "home" "[I") ∈ TB := TB_1 (i := 121) rfl rfl
set_option maxRecDepth 4000 in
theorem wd_204 : (Cond.fieldLink RX0 103 "RightsPool$World" "home" "[I") ∈ TB := TB_1 (i := 122) rfl rfl
set_option maxRecDepth 4000 in
theorem wd_205 : (Cond.fieldLink RX3 79 "RightsPool$World" "home" "[I") ∈ TB := TB_1 (i := 123) rfl rfl
set_option maxRecDepth 4000 in
theorem wd_206 : (Cond.fieldLink RX8 21 "RightsPool$World" "holder" "[I") ∈ TB := TB_1 (i := 124) rfl rfl
set_option maxRecDepth 4000 in
theorem wd_207 : (Cond.fieldLink RX0 122 "RightsPool$World" "holder" "[I") ∈ TB := TB_1 (i := 125) rfl rfl
set_option maxRecDepth 4000 in
theorem wd_208 : (Cond.fieldLink RX9 220 "RightsPool$World" "holder" "[I") ∈ TB := TB_1 (i := 126) rfl rfl
set_option maxRecDepth 4000 in
theorem wd_218 : (Cond.fieldLink RX0 12 "RightsPool$Books" "world" "LRightsPool$World;") ∈ TB := TB_1 (i := 136) rfl rfl
set_option maxRecDepth 4000 in
theorem wd_219 : (Cond.fieldLink RX9 113 "RightsPool$Books" "world" "LRightsPool$World;") ∈ TB := TB_1 (i := 137) rfl rfl
set_option maxRecDepth 4000 in
theorem wd_220 : (Cond.fieldLink RX0 18 "RightsPool$Books" "box" "[I") ∈ TB := TB_1 (i := 138) rfl rfl
set_option maxRecDepth 4000 in
theorem wd_221 : (Cond.fieldLink RX1 31 "RightsPool$Books" "box" "[I") ∈ TB := TB_1 (i := 139) rfl rfl
set_option maxRecDepth 4000 in
theorem wd_222 : (Cond.fieldLink RX9 126 "RightsPool$Books" "box" "[I") ∈ TB := TB_1 (i := 140) rfl rfl
set_option maxRecDepth 4000 in
theorem wd_223 : (Cond.fieldLink RX0 22 "RightsPool$Books" "landMoney" "[I") ∈ TB := TB_1 (i := 141) rfl rfl
set_option maxRecDepth 4000 in
theorem wd_224 : (Cond.fieldLink RX9 129 "RightsPool$Books" "landMoney" "[I") ∈ TB := TB_1 (i := 142) rfl rfl
set_option maxRecDepth 4000 in
theorem wd_225 : (Cond.fieldLink RX0 25 "RightsPool$Books" "sessionMoney" "[I") ∈ TB := TB_1 (i := 143) rfl rfl
set_option maxRecDepth 4000 in
theorem wd_226 : (Cond.fieldLink RX9 199 "RightsPool$Books" "sessionMoney" "[I") ∈ TB := TB_1 (i := 144) rfl rfl
set_option maxRecDepth 4000 in
theorem wd_227 : (Cond.fieldLink RX0 28 "RightsPool$Books" "sessionCopies" "[I") ∈ TB := TB_1 (i := 145) rfl rfl
set_option maxRecDepth 4000 in
theorem wd_228 : (Cond.fieldLink RX9 196 "RightsPool$Books" "sessionCopies" "[I") ∈ TB := TB_1 (i := 146) rfl rfl
set_option maxRecDepth 4000 in
theorem wd_229 : (Cond.fieldLink RX0 31 "RightsPool$Books" "weight" "[I") ∈ TB := TB_1 (i := 147) rfl rfl
set_option maxRecDepth 4000 in
theorem wd_230 : (Cond.fieldLink RX1 40 "RightsPool$Books" "weight" "[I") ∈ TB := TB_1 (i := 148) rfl rfl
set_option maxRecDepth 4000 in
theorem wd_231 : (Cond.fieldLink RX9 333 "RightsPool$Books" "weight" "[I") ∈ TB := TB_1 (i := 149) rfl rfl
set_option maxRecDepth 4000 in
theorem wd_232 : (Cond.fieldLink RX0 34 "RightsPool$Books" "byParts" "[I") ∈ TB := TB_1 (i := 150) rfl rfl
set_option maxRecDepth 4000 in
theorem wd_233 : (Cond.fieldLink RX9 336 "RightsPool$Books" "byParts" "[I") ∈ TB := TB_1 (i := 151) rfl rfl
set_option maxRecDepth 4000 in
theorem wd_234 : (Cond.fieldLink RX0 37 "RightsPool$Books" "lapse" "[I") ∈ TB := TB_1 (i := 152) rfl rfl
set_option maxRecDepth 4000 in
theorem wd_235 : (Cond.fieldLink RX9 349 "RightsPool$Books" "lapse" "[I") ∈ TB := TB_1 (i := 153) rfl rfl
set_option maxRecDepth 4000 in
theorem wd_236 : (Cond.fieldLink RX0 40 "RightsPool$Books" "keeping" "[I") ∈ TB := TB_1 (i := 154) rfl rfl
set_option maxRecDepth 4000 in
theorem wd_237 : (Cond.fieldLink RX9 346 "RightsPool$Books" "keeping" "[I") ∈ TB := TB_1 (i := 155) rfl rfl
set_option maxRecDepth 4000 in
theorem wd_238 : (Cond.fieldLink RX0 53 "RightsPool$Books" "year" "I") ∈ TB := TB_1 (i := 156) rfl rfl
set_option maxRecDepth 4000 in
theorem wd_239 : (Cond.fieldLink RX9 241 "RightsPool$Books" "year" "I") ∈ TB := TB_1 (i := 157) rfl rfl
set_option maxRecDepth 4000 in
theorem wd_261 : (Cond.classLink RX9 23 RX2) ∈ TB := TB_1 (i := 179) rfl rfl
set_option maxRecDepth 4000 in
theorem wd_262 : (Cond.instantiable RX2 3) ∈ TB := TB_1 (i := 180) rfl rfl
set_option maxRecDepth 4000 in
theorem wd_263 : (Cond.methodLink RX9 25 yX2_init) ∈ TB := TB_1 (i := 181) rfl rfl
set_option maxRecDepth 4000 in
theorem wd_264 : (Cond.instanceMethod yX2_init) ∈ TB := TB_1 (i := 182) rfl rfl
set_option maxRecDepth 4000 in
theorem wd_265 : (Cond.code yX2_init cX2_init 2 none) ∈ TB := TB_1 (i := 183) rfl rfl
set_option maxRecDepth 4000 in
theorem wd_266 : (Cond.methodLink RX2 3 objectInit) ∈ TB := TB_1 (i := 184) rfl rfl
set_option maxRecDepth 4000 in
theorem wd_267 : (Cond.classLink RX2 9 RX0) ∈ TB := TB_1 (i := 185) rfl rfl
set_option maxRecDepth 4000 in
theorem wd_270 : (Cond.fieldLink RX2 11 "RightsPool$History" "past" "[LRightsPool$Books;") ∈ TB := TB_1 (i := 188) rfl rfl
set_option maxRecDepth 4000 in
theorem wd_271 : (Cond.fieldLink RX2 22 "RightsPool$History" "latest" "I") ∈ TB := TB_1 (i := 189) rfl rfl
set_option maxRecDepth 4000 in
theorem wd_272 : (Cond.fieldLink RX2 18 "RightsPool$History" "count" "I") ∈ TB := TB_1 (i := 190) rfl rfl
set_option maxRecDepth 4000 in
theorem wd_273 : (Cond.fieldLink RX9 248 "RightsPool$History" "count" "I") ∈ TB := TB_1 (i := 191) rfl rfl
set_option maxRecDepth 4000 in
theorem wd_281 : (Cond.classLink RX9 30 RX8) ∈ TB := TB_1 (i := 199) rfl rfl
set_option maxRecDepth 4000 in
theorem wd_283 : (Cond.classLink RX9 37 RX3) ∈ TB := TB_1 (i := 201) rfl rfl
set_option maxRecDepth 4000 in
theorem wd_284 : (Cond.instantiable RX3 7) ∈ TB := TB_1 (i := 202) rfl rfl
set_option maxRecDepth 4000 in
theorem wd_286 : (Cond.instanceMethod yX3_init) ∈ TB := TB_1 (i := 204) rfl rfl
set_option maxRecDepth 4000 in
theorem wd_287 : (Cond.code yX3_init cX3_init 1 none) ∈ TB := TB_1 (i := 205) rfl rfl
set_option maxRecDepth 4000 in
theorem wd_288 : (Cond.methodLink RX3 3 objectInit) ∈ TB := TB_1 (i := 206) rfl rfl
set_option maxRecDepth 4000 in
theorem wd_289 : (Cond.fieldLink RX3 9 "RightsPool$Outcome" "has" "[I") ∈ TB := TB_1 (i := 207) rfl rfl
set_option maxRecDepth 4000 in
theorem wd_290 : (Cond.fieldLink RX0 78 "RightsPool$Outcome" "has" "[I") ∈ TB := TB_1 (i := 208) rfl rfl
set_option maxRecDepth 4000 in
theorem wd_291 : (Cond.fieldLink RX9 380 "RightsPool$Outcome" "has" "[I") ∈ TB := TB_1 (i := 209) rfl rfl
set_option maxRecDepth 4000 in
theorem wd_292 : (Cond.fieldLink RX3 15 "RightsPool$Outcome" "who" "[I") ∈ TB := TB_1 (i := 210) rfl rfl
set_option maxRecDepth 4000 in
theorem wd_293 : (Cond.fieldLink RX0 75 "RightsPool$Outcome" "who" "[I") ∈ TB := TB_1 (i := 211) rfl rfl
set_option maxRecDepth 4000 in
theorem wd_294 : (Cond.fieldLink RX3 18 "RightsPool$Outcome" "fate" "[I") ∈ TB := TB_1 (i := 212) rfl rfl
set_option maxRecDepth 4000 in
theorem wd_295 : (Cond.fieldLink RX0 72 "RightsPool$Outcome" "fate" "[I") ∈ TB := TB_1 (i := 213) rfl rfl
set_option maxRecDepth 4000 in
theorem wd_296 : (Cond.fieldLink RX3 21 "RightsPool$Outcome" "sum" "[I") ∈ TB := TB_1 (i := 214) rfl rfl
set_option maxRecDepth 4000 in
theorem wd_297 : (Cond.fieldLink RX6 39 "RightsPool$Outcome" "sum" "[I") ∈ TB := TB_1 (i := 215) rfl rfl
set_option maxRecDepth 4000 in
theorem wd_298 : (Cond.fieldLink RX9 300 "RightsPool$Outcome" "sum" "[I") ∈ TB := TB_1 (i := 216) rfl rfl
set_option maxRecDepth 4000 in
theorem wd_299 : (Cond.fieldLink RX3 30 "RightsPool$Outcome" "heads" "I") ∈ TB := TB_1 (i := 217) rfl rfl
set_option maxRecDepth 4000 in
theorem wd_300 : (Cond.fieldLink RX0 67 "RightsPool$Outcome" "heads" "I") ∈ TB := TB_1 (i := 218) rfl rfl
set_option maxRecDepth 4000 in
theorem wd_301 : (Cond.fieldLink RX3 64 "RightsPool$Outcome" "leadMoney" "I") ∈ TB := TB_1 (i := 219) rfl rfl
set_option maxRecDepth 4000 in
theorem wd_302 : (Cond.fieldLink RX9 386 "RightsPool$Outcome" "leadMoney" "I") ∈ TB := TB_1 (i := 220) rfl rfl
set_option maxRecDepth 4000 in
theorem wd_303 : (Cond.fieldLink RX3 72 "RightsPool$Outcome" "sideMoney" "I") ∈ TB := TB_1 (i := 221) rfl rfl
set_option maxRecDepth 4000 in
theorem wd_304 : (Cond.fieldLink RX9 389 "RightsPool$Outcome" "sideMoney" "I") ∈ TB := TB_1 (i := 222) rfl rfl
set_option maxRecDepth 4000 in
theorem wd_320 : (Cond.classLink RX9 44 RX6) ∈ TB := TB_1 (i := 238) rfl rfl
set_option maxRecDepth 4000 in
theorem wd_321 : (Cond.instantiable RX6 1) ∈ TB := TB_1 (i := 239) rfl rfl
set_option maxRecDepth 4000 in
theorem wd_323 : (Cond.instanceMethod yX6_init) ∈ TB := TB_2 (i := 1) rfl rfl
set_option maxRecDepth 4000 in
theorem wd_324 : (Cond.code yX6_init cX6_init 1 none) ∈ TB := TB_2 (i := 2) rfl rfl
set_option maxRecDepth 4000 in
theorem wd_325 : (Cond.methodLink RX6 3 objectInit) ∈ TB := TB_2 (i := 3) rfl rfl
set_option maxRecDepth 4000 in
theorem wd_326 : (Cond.classLink RX6 9 RX3) ∈ TB := TB_2 (i := 4) rfl rfl
set_option maxRecDepth 4000 in
theorem wd_328 : (Cond.fieldLink RX6 12 "RightsPool$Round" "outcome" "LRightsPool$Outcome;") ∈ TB := TB_2 (i := 6) rfl rfl
set_option maxRecDepth 4000 in
theorem wd_332 : (Cond.classLink RX9 51 RX1) ∈ TB := TB_2 (i := 10) rfl rfl
set_option maxRecDepth 4000 in
theorem wd_333 : (Cond.instantiable RX1 2) ∈ TB := TB_2 (i := 11) rfl rfl
set_option maxRecDepth 4000 in
theorem wd_335 : (Cond.instanceMethod yX1_init) ∈ TB := TB_2 (i := 13) rfl rfl
set_option maxRecDepth 4000 in
theorem wd_336 : (Cond.code yX1_init cX1_init 1 none) ∈ TB := TB_2 (i := 14) rfl rfl
set_option maxRecDepth 4000 in
theorem wd_337 : (Cond.methodLink RX1 3 objectInit) ∈ TB := TB_2 (i := 15) rfl rfl
set_option maxRecDepth 4000 in
theorem wd_338 : (Cond.fieldLink RX1 9 "RightsPool$BoxShares" "cents" "[I") ∈ TB := TB_2 (i := 16) rfl rfl
set_option maxRecDepth 4000 in
theorem wd_339 : (Cond.fieldLink RX0 128 "RightsPool$BoxShares" "cents" "[I") ∈ TB := TB_2 (i := 17) rfl rfl
set_option maxRecDepth 4000 in
theorem wd_340 : (Cond.fieldLink RX9 399 "RightsPool$BoxShares" "cents" "[I") ∈ TB := TB_2 (i := 18) rfl rfl
set_option maxRecDepth 4000 in
theorem wd_341 : (Cond.fieldLink RX1 15 "RightsPool$BoxShares" "rest" "[J") ∈ TB := TB_2 (i := 19) rfl rfl
set_option maxRecDepth 4000 in
theorem wd_347 : (Cond.classLink RX9 58 RX5) ∈ TB := TB_2 (i := 25) rfl rfl
set_option maxRecDepth 4000 in
theorem wd_348 : (Cond.instantiable RX5 14) ∈ TB := TB_2 (i := 26) rfl rfl
set_option maxRecDepth 4000 in
theorem wd_350 : (Cond.instanceMethod yX5_init) ∈ TB := TB_2 (i := 28) rfl rfl
set_option maxRecDepth 4000 in
theorem wd_351 : (Cond.code yX5_init cX5_init 1 none) ∈ TB := TB_2 (i := 29) rfl rfl
set_option maxRecDepth 4000 in
theorem wd_352 : (Cond.methodLink RX5 3 objectInit) ∈ TB := TB_2 (i := 30) rfl rfl
set_option maxRecDepth 4000 in
theorem wd_353 : (Cond.fieldLink RX5 9 "RightsPool$Roll" "rate" "[I") ∈ TB := TB_2 (i := 31) rfl rfl
set_option maxRecDepth 4000 in
theorem wd_354 : (Cond.fieldLink RX3 34 "RightsPool$Roll" "rate" "[I") ∈ TB := TB_2 (i := 32) rfl rfl
set_option maxRecDepth 4000 in
theorem wd_355 : (Cond.fieldLink RX4 107 "RightsPool$Roll" "rate" "[I") ∈ TB := TB_2 (i := 33) rfl rfl
set_option maxRecDepth 4000 in
theorem wd_356 : (Cond.fieldLink RX0 90 "RightsPool$Roll" "rate" "[I") ∈ TB := TB_2 (i := 34) rfl rfl
set_option maxRecDepth 4000 in
theorem wd_357 : (Cond.fieldLink RX9 123 "RightsPool$Roll" "rate" "[I") ∈ TB := TB_2 (i := 35) rfl rfl
set_option maxRecDepth 4000 in
theorem wd_358 : (Cond.fieldLink RX5 15 "RightsPool$Roll" "term" "[I") ∈ TB := TB_2 (i := 36) rfl rfl
set_option maxRecDepth 4000 in
theorem wd_359 : (Cond.fieldLink RX8 24 "RightsPool$Roll" "term" "[I") ∈ TB := TB_2 (i := 37) rfl rfl
set_option maxRecDepth 4000 in
theorem wd_360 : (Cond.fieldLink RX4 101 "RightsPool$Roll" "term" "[I") ∈ TB := TB_2 (i := 38) rfl rfl
set_option maxRecDepth 4000 in
theorem wd_361 : (Cond.fieldLink RX5 18 "RightsPool$Roll" "roles" "[I") ∈ TB := TB_2 (i := 39) rfl rfl
set_option maxRecDepth 4000 in
theorem wd_362 : (Cond.fieldLink RX8 33 "RightsPool$Roll" "roles" "[I") ∈ TB := TB_2 (i := 40) rfl rfl
set_option maxRecDepth 4000 in
theorem wd_363 : (Cond.fieldLink RX4 104 "RightsPool$Roll" "roles" "[I") ∈ TB := TB_2 (i := 41) rfl rfl
set_option maxRecDepth 4000 in
theorem wd_364 : (Cond.fieldLink RX5 21 "RightsPool$Roll" "home" "[I") ∈ TB := TB_2 (i := 42) rfl rfl
set_option maxRecDepth 4000 in
theorem wd_365 : (Cond.fieldLink RX8 34 "RightsPool$Roll" "home" "[I") ∈ TB := TB_2 (i := 43) rfl rfl
set_option maxRecDepth 4000 in
theorem wd_366 : (Cond.fieldLink RX4 116 "RightsPool$Roll" "home" "[I") ∈ TB := TB_2 (i := 44) rfl rfl
set_option maxRecDepth 4000 in
theorem wd_367 : (Cond.fieldLink RX5 24 "RightsPool$Roll" "members" "[I") ∈ TB := TB_2 (i := 45) rfl rfl
set_option maxRecDepth 4000 in
theorem wd_368 : (Cond.fieldLink RX0 81 "RightsPool$Roll" "members" "[I") ∈ TB := TB_2 (i := 46) rfl rfl
set_option maxRecDepth 4000 in
theorem wd_369 : (Cond.fieldLink RX4 126 "RightsPool$Roll" "members" "[I") ∈ TB := TB_2 (i := 47) rfl rfl
set_option maxRecDepth 4000 in
theorem wd_370 : (Cond.fieldLink RX9 182 "RightsPool$Roll" "members" "[I") ∈ TB := TB_2 (i := 48) rfl rfl
set_option maxRecDepth 4000 in
theorem wd_371 : (Cond.fieldLink RX8 89 "RightsPool$Roll" "members" "[I") ∈ TB := TB_2 (i := 49) rfl rfl
set_option maxRecDepth 4000 in
theorem wd_372 : (Cond.fieldLink RX5 27 "RightsPool$Roll" "seats" "[I") ∈ TB := TB_2 (i := 50) rfl rfl
set_option maxRecDepth 4000 in
theorem wd_373 : (Cond.fieldLink RX4 129 "RightsPool$Roll" "seats" "[I") ∈ TB := TB_2 (i := 51) rfl rfl
set_option maxRecDepth 4000 in
theorem wd_374 : (Cond.fieldLink RX9 185 "RightsPool$Roll" "seats" "[I") ∈ TB := TB_2 (i := 52) rfl rfl
set_option maxRecDepth 4000 in
theorem wd_375 : (Cond.fieldLink RX8 66 "RightsPool$Roll" "seats" "[I") ∈ TB := TB_2 (i := 53) rfl rfl
set_option maxRecDepth 4000 in
theorem wd_376 : (Cond.fieldLink RX0 147 "RightsPool$Roll" "seats" "[I") ∈ TB := TB_2 (i := 54) rfl rfl
set_option maxRecDepth 4000 in
theorem wd_377 : (Cond.fieldLink RX5 30 "RightsPool$Roll" "member" "[I") ∈ TB := TB_2 (i := 55) rfl rfl
set_option maxRecDepth 4000 in
theorem wd_378 : (Cond.fieldLink RX4 143 "RightsPool$Roll" "member" "[I") ∈ TB := TB_2 (i := 56) rfl rfl
set_option maxRecDepth 4000 in
theorem wd_379 : (Cond.fieldLink RX9 211 "RightsPool$Roll" "member" "[I") ∈ TB := TB_2 (i := 57) rfl rfl
set_option maxRecDepth 4000 in
theorem wd_380 : (Cond.fieldLink RX8 92 "RightsPool$Roll" "member" "[I") ∈ TB := TB_2 (i := 58) rfl rfl
set_option maxRecDepth 4000 in
theorem wd_381 : (Cond.fieldLink RX5 33 "RightsPool$Roll" "memberRole" "[I") ∈ TB := TB_2 (i := 59) rfl rfl
set_option maxRecDepth 4000 in
theorem wd_382 : (Cond.fieldLink RX4 146 "RightsPool$Roll" "memberRole" "[I") ∈ TB := TB_2 (i := 60) rfl rfl
set_option maxRecDepth 4000 in
theorem wd_383 : (Cond.fieldLink RX9 214 "RightsPool$Roll" "memberRole" "[I") ∈ TB := TB_2 (i := 61) rfl rfl
set_option maxRecDepth 4000 in
theorem wd_384 : (Cond.fieldLink RX5 43 "RightsPool$Roll" "lines" "I") ∈ TB := TB_2 (i := 62) rfl rfl
set_option maxRecDepth 4000 in
theorem wd_385 : (Cond.fieldLink RX9 93 "RightsPool$Roll" "lines" "I") ∈ TB := TB_2 (i := 63) rfl rfl
set_option maxRecDepth 4000 in
theorem wd_386 : (Cond.fieldLink RX4 88 "RightsPool$Roll" "lines" "I") ∈ TB := TB_2 (i := 64) rfl rfl
set_option maxRecDepth 4000 in
theorem wd_387 : (Cond.fieldLink RX5 46 "RightsPool$Roll" "lands" "I") ∈ TB := TB_2 (i := 65) rfl rfl
set_option maxRecDepth 4000 in
theorem wd_388 : (Cond.fieldLink RX6 18 "RightsPool$Roll" "lands" "I") ∈ TB := TB_2 (i := 66) rfl rfl
set_option maxRecDepth 4000 in
theorem wd_389 : (Cond.fieldLink RX4 91 "RightsPool$Roll" "lands" "I") ∈ TB := TB_2 (i := 67) rfl rfl
set_option maxRecDepth 4000 in
theorem wd_390 : (Cond.fieldLink RX0 93 "RightsPool$Roll" "lands" "I") ∈ TB := TB_2 (i := 68) rfl rfl
set_option maxRecDepth 4000 in
theorem wd_391 : (Cond.fieldLink RX8 45 "RightsPool$Roll" "lands" "I") ∈ TB := TB_2 (i := 69) rfl rfl
set_option maxRecDepth 4000 in
theorem wd_392 : (Cond.fieldLink RX9 229 "RightsPool$Roll" "lands" "I") ∈ TB := TB_2 (i := 70) rfl rfl
set_option maxRecDepth 4000 in
theorem wd_393 : (Cond.fieldLink RX5 49 "RightsPool$Roll" "players" "I") ∈ TB := TB_2 (i := 71) rfl rfl
set_option maxRecDepth 4000 in
theorem wd_394 : (Cond.fieldLink RX1 34 "RightsPool$Roll" "players" "I") ∈ TB := TB_2 (i := 72) rfl rfl
set_option maxRecDepth 4000 in
theorem wd_395 : (Cond.fieldLink RX4 113 "RightsPool$Roll" "players" "I") ∈ TB := TB_2 (i := 73) rfl rfl
set_option maxRecDepth 4000 in
theorem wd_396 : (Cond.fieldLink RX0 125 "RightsPool$Roll" "players" "I") ∈ TB := TB_2 (i := 74) rfl rfl
set_option maxRecDepth 4000 in
theorem wd_397 : (Cond.fieldLink RX9 226 "RightsPool$Roll" "players" "I") ∈ TB := TB_2 (i := 75) rfl rfl
set_option maxRecDepth 4000 in
theorem wd_398 : (Cond.fieldLink RX8 63 "RightsPool$Roll" "players" "I") ∈ TB := TB_2 (i := 76) rfl rfl
set_option maxRecDepth 4000 in
theorem wd_399 : (Cond.fieldLink RX5 52 "RightsPool$Roll" "sessions" "I") ∈ TB := TB_2 (i := 77) rfl rfl
set_option maxRecDepth 4000 in
theorem wd_400 : (Cond.fieldLink RX6 24 "RightsPool$Roll" "sessions" "I") ∈ TB := TB_2 (i := 78) rfl rfl
set_option maxRecDepth 4000 in
theorem wd_401 : (Cond.fieldLink RX4 123 "RightsPool$Roll" "sessions" "I") ∈ TB := TB_2 (i := 79) rfl rfl
set_option maxRecDepth 4000 in
theorem wd_402 : (Cond.fieldLink RX9 232 "RightsPool$Roll" "sessions" "I") ∈ TB := TB_2 (i := 80) rfl rfl
set_option maxRecDepth 4000 in
theorem wd_403 : (Cond.fieldLink RX8 73 "RightsPool$Roll" "sessions" "I") ∈ TB := TB_2 (i := 81) rfl rfl
set_option maxRecDepth 4000 in
theorem wd_404 : (Cond.fieldLink RX5 36 "RightsPool$Roll" "lead" "I") ∈ TB := TB_2 (i := 82) rfl rfl
set_option maxRecDepth 4000 in
theorem wd_405 : (Cond.fieldLink RX3 67 "RightsPool$Roll" "lead" "I") ∈ TB := TB_2 (i := 83) rfl rfl
set_option maxRecDepth 4000 in
theorem wd_406 : (Cond.fieldLink RX4 149 "RightsPool$Roll" "lead" "I") ∈ TB := TB_2 (i := 84) rfl rfl
set_option maxRecDepth 4000 in
theorem wd_407 : (Cond.fieldLink RX9 235 "RightsPool$Roll" "lead" "I") ∈ TB := TB_2 (i := 85) rfl rfl
set_option maxRecDepth 4000 in
theorem wd_408 : (Cond.fieldLink RX5 40 "RightsPool$Roll" "keepYears" "I") ∈ TB := TB_2 (i := 86) rfl rfl
set_option maxRecDepth 4000 in
theorem wd_409 : (Cond.fieldLink RX0 96 "RightsPool$Roll" "keepYears" "I") ∈ TB := TB_2 (i := 87) rfl rfl
set_option maxRecDepth 4000 in
theorem wd_410 : (Cond.fieldLink RX4 152 "RightsPool$Roll" "keepYears" "I") ∈ TB := TB_2 (i := 88) rfl rfl
set_option maxRecDepth 4000 in
theorem wd_411 : (Cond.fieldLink RX9 238 "RightsPool$Roll" "keepYears" "I") ∈ TB := TB_2 (i := 89) rfl rfl
set_option maxRecDepth 4000 in
theorem wd_441 : (Cond.fieldLink RX9 10 "RightsPool" "reader" "LRightsPool$Reader;") ∈ TB := TB_2 (i := 119) rfl rfl
set_option maxRecDepth 4000 in
theorem wd_442 : (Cond.fieldLink RX9 19 "RightsPool" "books" "LRightsPool$Books;") ∈ TB := TB_2 (i := 120) rfl rfl
set_option maxRecDepth 4000 in
theorem wd_443 : (Cond.fieldLink RX9 26 "RightsPool" "history" "LRightsPool$History;") ∈ TB := TB_2 (i := 121) rfl rfl
set_option maxRecDepth 4000 in
theorem wd_444 : (Cond.fieldLink RX9 33 "RightsPool" "were" "LRightsPool$World;") ∈ TB := TB_2 (i := 122) rfl rfl
set_option maxRecDepth 4000 in
theorem wd_445 : (Cond.fieldLink RX9 40 "RightsPool" "outcome" "LRightsPool$Outcome;") ∈ TB := TB_2 (i := 123) rfl rfl
set_option maxRecDepth 4000 in
theorem wd_446 : (Cond.fieldLink RX9 47 "RightsPool" "aRound" "LRightsPool$Round;") ∈ TB := TB_2 (i := 124) rfl rfl
set_option maxRecDepth 4000 in
theorem wd_447 : (Cond.fieldLink RX9 54 "RightsPool" "boxShares" "LRightsPool$BoxShares;") ∈ TB := TB_2 (i := 125) rfl rfl
set_option maxRecDepth 4000 in
theorem wd_448 : (Cond.fieldLink RX9 61 "RightsPool" "roll" "LRightsPool$Roll;") ∈ TB := TB_2 (i := 126) rfl rfl
set_option maxRecDepth 4000 in
theorem wd_449 : (Cond.fieldLink RX9 65 "RightsPool" "draft" "LRightsPool$Roll;") ∈ TB := TB_2 (i := 127) rfl rfl
set_option maxRecDepth 4000 in
theorem wd_469 : (Cond.methodLink RL 27 yX9_feed) ∈ TB := TB_2 (i := 147) rfl rfl
set_option maxRecDepth 4000 in
theorem wd_470 : (Cond.instanceMethod yX9_feed) ∈ TB := TB_2 (i := 148) rfl rfl
set_option maxRecDepth 4000 in
theorem wd_471 : (Cond.selects RX9 yX9_feed yX9_feed) ∈ TB := TB_2 (i := 149) rfl rfl
set_option maxRecDepth 4000 in
theorem wd_472 : (Cond.code yX9_feed cX9_feed 6 (some .int)) ∈ TB := TB_2 (i := 150) rfl rfl
set_option maxRecDepth 4000 in
theorem wd_473 : (Cond.methodLink RX9 78 yX7_append) ∈ TB := TB_2 (i := 151) rfl rfl
set_option maxRecDepth 4000 in
theorem wd_474 : (Cond.instanceMethod yX7_append) ∈ TB := TB_2 (i := 152) rfl rfl
set_option maxRecDepth 4000 in
theorem wd_475 : (Cond.selects RX7 yX7_append yX7_append) ∈ TB := TB_2 (i := 153) rfl rfl
set_option maxRecDepth 4000 in
theorem wd_476 : (Cond.code yX7_append cX7_append 3 none) ∈ TB := TB_2 (i := 154) rfl rfl
set_option maxRecDepth 4000 in
theorem wd_477 : (Cond.methodLink RL 32 yX9_text) ∈ TB := TB_2 (i := 155) rfl rfl
set_option maxRecDepth 4000 in
theorem wd_478 : (Cond.instanceMethod yX9_text) ∈ TB := TB_2 (i := 156) rfl rfl
set_option maxRecDepth 4000 in
theorem wd_479 : (Cond.selects RX9 yX9_text yX9_text) ∈ TB := TB_2 (i := 157) rfl rfl
set_option maxRecDepth 4000 in
theorem wd_480 : (Cond.code yX9_text cX9_text 3 (some .int)) ∈ TB := TB_2 (i := 158) rfl rfl
set_option maxRecDepth 4000 in
theorem wd_481 : (Cond.methodLink RX9 82 yX4_readText) ∈ TB := TB_2 (i := 159) rfl rfl
set_option maxRecDepth 4000 in
theorem wd_482 : (Cond.instanceMethod yX4_readText) ∈ TB := TB_2 (i := 160) rfl rfl
set_option maxRecDepth 4000 in
theorem wd_483 : (Cond.selects RX4 yX4_readText yX4_readText) ∈ TB := TB_2 (i := 161) rfl rfl
set_option maxRecDepth 4000 in
theorem wd_484 : (Cond.code yX4_readText cX4_readText 4 (some .boolean)) ∈ TB := TB_2 (i := 162) rfl rfl
set_option maxRecDepth 4000 in
theorem wd_485 : (Cond.methodLink RX4 32 yX7_takeTokens) ∈ TB := TB_2 (i := 163) rfl rfl
set_option maxRecDepth 4000 in
theorem wd_486 : (Cond.instanceMethod yX7_takeTokens) ∈ TB := TB_2 (i := 164) rfl rfl
set_option maxRecDepth 4000 in
theorem wd_487 : (Cond.selects RX7 yX7_takeTokens yX7_takeTokens) ∈ TB := TB_2 (i := 165) rfl rfl
set_option maxRecDepth 4000 in
theorem wd_488 : (Cond.code yX7_takeTokens cX7_takeTokens 4 none) ∈ TB := TB_2 (i := 166) rfl rfl
set_option maxRecDepth 4000 in
theorem wd_489 : (Cond.methodLink RX7 29 yJ9_min_7cf53) ∈ TB := TB_2 (i := 167) rfl rfl
set_option maxRecDepth 4000 in
theorem wd_490 : (Cond.static yJ9_min_7cf53) ∈ TB := TB_2 (i := 168) rfl rfl
set_option maxRecDepth 4000 in
theorem wd_491 : (Cond.code yJ9_min_7cf53 cJ9_min_7cf53 2 (some .int)) ∈ TB := TB_2 (i := 169) rfl rfl
set_option maxRecDepth 4000 in
theorem wd_492 : (Cond.methodLink RX7 41 yX7_scanToken) ∈ TB := TB_2 (i := 170) rfl rfl
set_option maxRecDepth 4000 in
theorem wd_493 : (Cond.instanceMethod yX7_scanToken) ∈ TB := TB_2 (i := 171) rfl rfl
set_option maxRecDepth 4000 in
theorem wd_494 : (Cond.selects RX7 yX7_scanToken yX7_scanToken) ∈ TB := TB_2 (i := 172) rfl rfl
set_option maxRecDepth 4000 in
theorem wd_495 : (Cond.code yX7_scanToken cX7_scanToken 2 none) ∈ TB := TB_2 (i := 173) rfl rfl
set_option maxRecDepth 4000 in
theorem wd_496 : (Cond.methodLink RX7 45 yX7_isLetter) ∈ TB := TB_2 (i := 174) rfl rfl
set_option maxRecDepth 4000 in
theorem wd_497 : (Cond.static yX7_isLetter) ∈ TB := TB_2 (i := 175) rfl rfl
set_option maxRecDepth 4000 in
theorem wd_498 : (Cond.code yX7_isLetter cX7_isLetter 1 (some .boolean)) ∈ TB := TB_2 (i := 176) rfl rfl
set_option maxRecDepth 4000 in
theorem wd_499 : (Cond.methodLink RX7 49 yX7_scanWord) ∈ TB := TB_2 (i := 177) rfl rfl
set_option maxRecDepth 4000 in
theorem wd_500 : (Cond.instanceMethod yX7_scanWord) ∈ TB := TB_2 (i := 178) rfl rfl
set_option maxRecDepth 4000 in
theorem wd_501 : (Cond.selects RX7 yX7_scanWord yX7_scanWord) ∈ TB := TB_2 (i := 179) rfl rfl
set_option maxRecDepth 4000 in
theorem wd_502 : (Cond.code yX7_scanWord cX7_scanWord 4 none) ∈ TB := TB_2 (i := 180) rfl rfl
set_option maxRecDepth 4000 in
theorem wd_503 : (Cond.methodLink RX7 58 yX7_withLetter) ∈ TB := TB_2 (i := 181) rfl rfl
set_option maxRecDepth 4000 in
theorem wd_504 : (Cond.static yX7_withLetter) ∈ TB := TB_2 (i := 182) rfl rfl
set_option maxRecDepth 4000 in
theorem wd_505 : (Cond.code yX7_withLetter cX7_withLetter 3 (some .long)) ∈ TB := TB_2 (i := 183) rfl rfl
set_option maxRecDepth 4000 in
theorem wd_506 : (Cond.constantLong RX7 84 (32)) ∈ TB := TB_2 (i := 184) rfl rfl
set_option maxRecDepth 4000 in
theorem wd_507 : (Cond.constantLong RX7 86 (97)) ∈ TB := TB_2 (i := 185) rfl rfl
set_option maxRecDepth 4000 in
theorem wd_508 : (Cond.methodLink RX7 62 yX7_kindOfWord) ∈ TB := TB_2 (i := 186) rfl rfl
set_option maxRecDepth 4000 in
theorem wd_509 : (Cond.static yX7_kindOfWord) ∈ TB := TB_2 (i := 187) rfl rfl
set_option maxRecDepth 4000 in
theorem wd_510 : (Cond.code yX7_kindOfWord cX7_kindOfWord 8 (some .int)) ∈ TB := TB_2 (i := 188) rfl rfl
set_option maxRecDepth 4000 in
theorem wd_512 : (Cond.methodLink RX7 74 yJ0_length_8abf5) ∈ TB := TB_2 (i := 190) rfl rfl
set_option maxRecDepth 4000 in
theorem wd_513 : (Cond.instanceMethod yJ0_length_8abf5) ∈ TB := TB_2 (i := 191) rfl rfl
set_option maxRecDepth 4000 in
theorem wd_514 : (Cond.selects RJ0 yJ0_length_8abf5 yJ0_length_8abf5) ∈ TB := TB_2 (i := 192) rfl rfl
set_option maxRecDepth 4000 in
theorem wd_515 : (Cond.code yJ0_length_8abf5 cJ0_length_8abf5 1 (some .int)) ∈ TB := TB_2 (i := 193) rfl rfl
set_option maxRecDepth 4000 in
theorem wd_516 : (Cond.methodLink RJ0 335 yJ0_coder_7d493) ∈ TB := TB_2 (i := 194) rfl rfl
set_option maxRecDepth 4000 in
theorem wd_517 : (Cond.instanceMethod yJ0_coder_7d493) ∈ TB := TB_2 (i := 195) rfl rfl
set_option maxRecDepth 4000 in
theorem wd_518 : (Cond.selects RJ0 yJ0_coder_7d493 yJ0_coder_7d493) ∈ TB := TB_2 (i := 196) rfl rfl
set_option maxRecDepth 4000 in
theorem wd_519 : (Cond.code yJ0_coder_7d493 cJ0_coder_7d493 1 (some .byte)) ∈ TB := TB_2 (i := 197) rfl rfl
set_option maxRecDepth 4000 in
theorem wd_520 : (Cond.fieldLink RJ0 38 "java/lang/String" "COMPACT_STRINGS" "Z") ∈ TB := TB_2 (i := 198) rfl rfl
set_option maxRecDepth 4000 in
theorem wd_522 : (Cond.methodLink RX7 80 yJ0_charAt_5068e) ∈ TB := TB_2 (i := 200) rfl rfl
set_option maxRecDepth 4000 in
theorem wd_523 : (Cond.instanceMethod yJ0_charAt_5068e) ∈ TB := TB_2 (i := 201) rfl rfl
set_option maxRecDepth 4000 in
theorem wd_524 : (Cond.selects RJ0 yJ0_charAt_5068e yJ0_charAt_5068e) ∈ TB := TB_2 (i := 202) rfl rfl
set_option maxRecDepth 4000 in
theorem wd_525 : (Cond.code yJ0_charAt_5068e cJ0_charAt_5068e 2 (some .char)) ∈ TB := TB_2 (i := 203) rfl rfl
set_option maxRecDepth 4000 in
theorem wd_526 : (Cond.methodLink RJ0 492 yJ0_isLatin1_aae02) ∈ TB := TB_2 (i := 204) rfl rfl
set_option maxRecDepth 4000 in
theorem wd_527 : (Cond.instanceMethod yJ0_isLatin1_aae02) ∈ TB := TB_2 (i := 205) rfl rfl
set_option maxRecDepth 4000 in
theorem wd_528 : (Cond.selects RJ0 yJ0_isLatin1_aae02 yJ0_isLatin1_aae02) ∈ TB := TB_2 (i := 206) rfl rfl
set_option maxRecDepth 4000 in
theorem wd_529 : (Cond.code yJ0_isLatin1_aae02 cJ0_isLatin1_aae02 1 (some .boolean)) ∈ TB := TB_2 (i := 207) rfl rfl
set_option maxRecDepth 4000 in
theorem wd_530 : (Cond.methodLink RJ0 495 yJ1_charAt_3b067) ∈ TB := TB_2 (i := 208) rfl rfl
set_option maxRecDepth 4000 in
theorem wd_531 : (Cond.static yJ1_charAt_3b067) ∈ TB := TB_2 (i := 209) rfl rfl
set_option maxRecDepth 4000 in
theorem wd_532 : (Cond.code yJ1_charAt_3b067 cJ1_charAt_3b067 2 (some .char)) ∈ TB := TB_2 (i := 210) rfl rfl
set_option maxRecDepth 4000 in
theorem wd_533 : (Cond.methodLink RJ1 9 yJ0_checkIndex_df160) ∈ TB := TB_2 (i := 211) rfl rfl
set_option maxRecDepth 4000 in
theorem wd_534 : (Cond.static yJ0_checkIndex_df160) ∈ TB := TB_2 (i := 212) rfl rfl
set_option maxRecDepth 4000 in
theorem wd_535 : (Cond.code yJ0_checkIndex_df160 cJ0_checkIndex_df160 2 none) ∈ TB := TB_2 (i := 213) rfl rfl
set_option maxRecDepth 4000 in
theorem wd_536 : (Cond.fieldLink RJ0 1053 "jdk/internal/util/Preconditions" "SIOOBE_FORMATTER" "Ljava/util/function/BiFunction;") ∈ TB := TB_2 (i := 214) rfl rfl
set_option maxRecDepth 4000 in
theorem wd_538 : (Cond.methodLink RJ0 1059 yJ3_checkIndex_8e157) ∈ TB := TB_2 (i := 216) rfl rfl
set_option maxRecDepth 4000 in
theorem wd_539 : (Cond.static yJ3_checkIndex_8e157) ∈ TB := TB_2 (i := 217) rfl rfl
set_option maxRecDepth 4000 in
theorem wd_540 : (Cond.code yJ3_checkIndex_8e157 cJ3_checkIndex_8e157 3 (some .int)) ∈ TB := TB_2 (i := 218) rfl rfl
set_option maxRecDepth 4000 in
theorem wd_541 : (Cond.methodLink RJ0 498 yJ2_charAt_3b067) ∈ TB := TB_2 (i := 219) rfl rfl
set_option maxRecDepth 4000 in
theorem wd_542 : (Cond.static yJ2_charAt_3b067) ∈ TB := TB_2 (i := 220) rfl rfl
set_option maxRecDepth 4000 in
theorem wd_543 : (Cond.code yJ2_charAt_3b067 cJ2_charAt_3b067 2 (some .char)) ∈ TB := TB_2 (i := 221) rfl rfl
set_option maxRecDepth 4000 in
theorem wd_544 : (Cond.methodLink RJ2 67 yJ2_checkIndex_2214a) ∈ TB := TB_2 (i := 222) rfl rfl
set_option maxRecDepth 4000 in
theorem wd_545 : (Cond.static yJ2_checkIndex_2214a) ∈ TB := TB_2 (i := 223) rfl rfl
set_option maxRecDepth 4000 in
theorem wd_546 : (Cond.code yJ2_checkIndex_2214a cJ2_checkIndex_2214a 2 none) ∈ TB := TB_2 (i := 224) rfl rfl
set_option maxRecDepth 4000 in
theorem wd_547 : (Cond.methodLink RJ2 48 yJ2_length_9d52b) ∈ TB := TB_2 (i := 225) rfl rfl
set_option maxRecDepth 4000 in
theorem wd_548 : (Cond.static yJ2_length_9d52b) ∈ TB := TB_2 (i := 226) rfl rfl
set_option maxRecDepth 4000 in
theorem wd_549 : (Cond.code yJ2_length_9d52b cJ2_length_9d52b 1 (some .int)) ∈ TB := TB_2 (i := 227) rfl rfl
set_option maxRecDepth 4000 in
theorem wd_550 : (Cond.methodLink RJ2 414 yJ0_checkIndex_df160) ∈ TB := TB_2 (i := 228) rfl rfl
set_option maxRecDepth 4000 in
theorem wd_551 : (Cond.methodLink RJ2 71 yJ2_getChar_3b067) ∈ TB := TB_2 (i := 229) rfl rfl
set_option maxRecDepth 4000 in
theorem wd_552 : (Cond.static yJ2_getChar_3b067) ∈ TB := TB_2 (i := 230) rfl rfl
set_option maxRecDepth 4000 in
theorem wd_553 : (Cond.code yJ2_getChar_3b067 cJ2_getChar_3b067 2 (some .char)) ∈ TB := TB_2 (i := 231) rfl rfl
set_option maxRecDepth 4000 in
theorem wd_554 : (Cond.fieldLink RJ2 44 "java/lang/StringUTF16" "$assertionsDisabled" "Z") ∈ TB := TB_2 (i := 232) rfl rfl
set_option maxRecDepth 4000 in
theorem wd_556 : (Cond.fieldLink RJ2 59 "java/lang/StringUTF16" "HI_BYTE_SHIFT" "I") ∈ TB := TB_2 (i := 234) rfl rfl
set_option maxRecDepth 4000 in
theorem wd_558 : (Cond.fieldLink RJ2 63 "java/lang/StringUTF16" "LO_BYTE_SHIFT" "I") ∈ TB := TB_2 (i := 236) rfl rfl
set_option maxRecDepth 4000 in
theorem wd_560 : (Cond.methodLink RX7 52 yX7_isDigit) ∈ TB := TB_2 (i := 238) rfl rfl
set_option maxRecDepth 4000 in
theorem wd_561 : (Cond.static yX7_isDigit) ∈ TB := TB_2 (i := 239) rfl rfl
set_option maxRecDepth 4000 in
theorem wd_562 : (Cond.code yX7_isDigit cX7_isDigit 1 (some .boolean)) ∈ TB := TB_3 (i := 0) rfl rfl
set_option maxRecDepth 4000 in
theorem wd_563 : (Cond.methodLink RX7 55 yX7_scanNumber) ∈ TB := TB_3 (i := 1) rfl rfl
set_option maxRecDepth 4000 in
theorem wd_564 : (Cond.instanceMethod yX7_scanNumber) ∈ TB := TB_3 (i := 2) rfl rfl
set_option maxRecDepth 4000 in
theorem wd_565 : (Cond.selects RX7 yX7_scanNumber yX7_scanNumber) ∈ TB := TB_3 (i := 3) rfl rfl
set_option maxRecDepth 4000 in
theorem wd_566 : (Cond.code yX7_scanNumber cX7_scanNumber 4 none) ∈ TB := TB_3 (i := 4) rfl rfl
set_option maxRecDepth 4000 in
theorem wd_567 : (Cond.constantLong RX7 66 (100000)) ∈ TB := TB_3 (i := 5) rfl rfl
set_option maxRecDepth 4000 in
theorem wd_568 : (Cond.constantLong RX7 68 (10)) ∈ TB := TB_3 (i := 6) rfl rfl
set_option maxRecDepth 4000 in
theorem wd_569 : (Cond.constantLong RX7 70 (48)) ∈ TB := TB_3 (i := 7) rfl rfl
set_option maxRecDepth 4000 in
theorem wd_570 : (Cond.methodLink RX4 36 yX5_clear) ∈ TB := TB_3 (i := 8) rfl rfl
set_option maxRecDepth 4000 in
theorem wd_571 : (Cond.instanceMethod yX5_clear) ∈ TB := TB_3 (i := 9) rfl rfl
set_option maxRecDepth 4000 in
theorem wd_572 : (Cond.selects RX5 yX5_clear yX5_clear) ∈ TB := TB_3 (i := 10) rfl rfl
set_option maxRecDepth 4000 in
theorem wd_573 : (Cond.code yX5_clear cX5_clear 1 none) ∈ TB := TB_3 (i := 11) rfl rfl
set_option maxRecDepth 4000 in
theorem wd_574 : (Cond.methodLink RX4 54 yX4_isAt) ∈ TB := TB_3 (i := 12) rfl rfl
set_option maxRecDepth 4000 in
theorem wd_575 : (Cond.instanceMethod yX4_isAt) ∈ TB := TB_3 (i := 13) rfl rfl
set_option maxRecDepth 4000 in
theorem wd_576 : (Cond.selects RX4 yX4_isAt yX4_isAt) ∈ TB := TB_3 (i := 14) rfl rfl
set_option maxRecDepth 4000 in
theorem wd_577 : (Cond.code yX4_isAt cX4_isAt 2 (some .boolean)) ∈ TB := TB_3 (i := 15) rfl rfl
set_option maxRecDepth 4000 in
theorem wd_578 : (Cond.methodLink RX4 58 yX4_readLine) ∈ TB := TB_3 (i := 16) rfl rfl
set_option maxRecDepth 4000 in
theorem wd_579 : (Cond.instanceMethod yX4_readLine) ∈ TB := TB_3 (i := 17) rfl rfl
set_option maxRecDepth 4000 in
theorem wd_580 : (Cond.selects RX4 yX4_readLine yX4_readLine) ∈ TB := TB_3 (i := 18) rfl rfl
set_option maxRecDepth 4000 in
theorem wd_581 : (Cond.code yX4_readLine cX4_readLine 2 none) ∈ TB := TB_3 (i := 19) rfl rfl
set_option maxRecDepth 4000 in
theorem wd_582 : (Cond.methodLink RX4 66 yX4_readLand) ∈ TB := TB_3 (i := 20) rfl rfl
set_option maxRecDepth 4000 in
theorem wd_583 : (Cond.instanceMethod yX4_readLand) ∈ TB := TB_3 (i := 21) rfl rfl
set_option maxRecDepth 4000 in
theorem wd_584 : (Cond.selects RX4 yX4_readLand yX4_readLand) ∈ TB := TB_3 (i := 22) rfl rfl
set_option maxRecDepth 4000 in
theorem wd_585 : (Cond.code yX4_readLand cX4_readLand 4 none) ∈ TB := TB_3 (i := 23) rfl rfl
set_option maxRecDepth 4000 in
theorem wd_586 : (Cond.methodLink RX4 81 yX4_blame) ∈ TB := TB_3 (i := 24) rfl rfl
set_option maxRecDepth 4000 in
theorem wd_587 : (Cond.instanceMethod yX4_blame) ∈ TB := TB_3 (i := 25) rfl rfl
set_option maxRecDepth 4000 in
theorem wd_588 : (Cond.selects RX4 yX4_blame yX4_blame) ∈ TB := TB_3 (i := 26) rfl rfl
set_option maxRecDepth 4000 in
theorem wd_589 : (Cond.code yX4_blame cX4_blame 2 none) ∈ TB := TB_3 (i := 27) rfl rfl
set_option maxRecDepth 4000 in
theorem wd_590 : (Cond.methodLink RX4 94 yX4_advance) ∈ TB := TB_3 (i := 28) rfl rfl
set_option maxRecDepth 4000 in
theorem wd_591 : (Cond.instanceMethod yX4_advance) ∈ TB := TB_3 (i := 29) rfl rfl
set_option maxRecDepth 4000 in
theorem wd_592 : (Cond.selects RX4 yX4_advance yX4_advance) ∈ TB := TB_3 (i := 30) rfl rfl
set_option maxRecDepth 4000 in
theorem wd_593 : (Cond.code yX4_advance cX4_advance 1 none) ∈ TB := TB_3 (i := 31) rfl rfl
set_option maxRecDepth 4000 in
theorem wd_594 : (Cond.methodLink RX4 97 yX4_newName) ∈ TB := TB_3 (i := 32) rfl rfl
set_option maxRecDepth 4000 in
theorem wd_595 : (Cond.instanceMethod yX4_newName) ∈ TB := TB_3 (i := 33) rfl rfl
set_option maxRecDepth 4000 in
theorem wd_596 : (Cond.selects RX4 yX4_newName yX4_newName) ∈ TB := TB_3 (i := 34) rfl rfl
set_option maxRecDepth 4000 in
theorem wd_597 : (Cond.code yX4_newName cX4_newName 4 (some .long)) ∈ TB := TB_3 (i := 35) rfl rfl
set_option maxRecDepth 4000 in
theorem wd_598 : (Cond.methodLink RX4 161 yX4_isTold) ∈ TB := TB_3 (i := 36) rfl rfl
set_option maxRecDepth 4000 in
theorem wd_599 : (Cond.instanceMethod yX4_isTold) ∈ TB := TB_3 (i := 37) rfl rfl
set_option maxRecDepth 4000 in
theorem wd_600 : (Cond.selects RX4 yX4_isTold yX4_isTold) ∈ TB := TB_3 (i := 38) rfl rfl
set_option maxRecDepth 4000 in
theorem wd_601 : (Cond.code yX4_isTold cX4_isTold 2 (some .boolean)) ∈ TB := TB_3 (i := 39) rfl rfl
set_option maxRecDepth 4000 in
theorem wd_602 : (Cond.methodLink RX4 165 yX4_find) ∈ TB := TB_3 (i := 40) rfl rfl
set_option maxRecDepth 4000 in
theorem wd_603 : (Cond.instanceMethod yX4_find) ∈ TB := TB_3 (i := 41) rfl rfl
set_option maxRecDepth 4000 in
theorem wd_604 : (Cond.selects RX4 yX4_find yX4_find) ∈ TB := TB_3 (i := 42) rfl rfl
set_option maxRecDepth 4000 in
theorem wd_605 : (Cond.code yX4_find cX4_find 4 (some .int)) ∈ TB := TB_3 (i := 43) rfl rfl
set_option maxRecDepth 4000 in
theorem wd_606 : (Cond.methodLink RX4 84 yX4_oneOf) ∈ TB := TB_3 (i := 44) rfl rfl
set_option maxRecDepth 4000 in
theorem wd_607 : (Cond.instanceMethod yX4_oneOf) ∈ TB := TB_3 (i := 45) rfl rfl
set_option maxRecDepth 4000 in
theorem wd_608 : (Cond.selects RX4 yX4_oneOf yX4_oneOf) ∈ TB := TB_3 (i := 46) rfl rfl
set_option maxRecDepth 4000 in
theorem wd_609 : (Cond.code yX4_oneOf cX4_oneOf 4 (some .int)) ∈ TB := TB_3 (i := 47) rfl rfl
set_option maxRecDepth 4000 in
theorem wd_610 : (Cond.methodLink RX4 110 yX4_numberIn) ∈ TB := TB_3 (i := 48) rfl rfl
set_option maxRecDepth 4000 in
theorem wd_611 : (Cond.instanceMethod yX4_numberIn) ∈ TB := TB_3 (i := 49) rfl rfl
set_option maxRecDepth 4000 in
theorem wd_612 : (Cond.selects RX4 yX4_numberIn yX4_numberIn) ∈ TB := TB_3 (i := 50) rfl rfl
set_option maxRecDepth 4000 in
theorem wd_613 : (Cond.code yX4_numberIn cX4_numberIn 5 (some .int)) ∈ TB := TB_3 (i := 51) rfl rfl
set_option maxRecDepth 4000 in
theorem wd_614 : (Cond.methodLink RX4 69 yX4_readPlayer) ∈ TB := TB_3 (i := 52) rfl rfl
set_option maxRecDepth 4000 in
theorem wd_615 : (Cond.instanceMethod yX4_readPlayer) ∈ TB := TB_3 (i := 53) rfl rfl
set_option maxRecDepth 4000 in
theorem wd_616 : (Cond.selects RX4 yX4_readPlayer yX4_readPlayer) ∈ TB := TB_3 (i := 54) rfl rfl
set_option maxRecDepth 4000 in
theorem wd_617 : (Cond.code yX4_readPlayer cX4_readPlayer 3 none) ∈ TB := TB_3 (i := 55) rfl rfl
set_option maxRecDepth 4000 in
theorem wd_618 : (Cond.methodLink RX4 119 yX4_oldName) ∈ TB := TB_3 (i := 56) rfl rfl
set_option maxRecDepth 4000 in
theorem wd_619 : (Cond.instanceMethod yX4_oldName) ∈ TB := TB_3 (i := 57) rfl rfl
set_option maxRecDepth 4000 in
theorem wd_620 : (Cond.selects RX4 yX4_oldName yX4_oldName) ∈ TB := TB_3 (i := 58) rfl rfl
set_option maxRecDepth 4000 in
theorem wd_621 : (Cond.code yX4_oldName cX4_oldName 4 (some .int)) ∈ TB := TB_3 (i := 59) rfl rfl
set_option maxRecDepth 4000 in
theorem wd_622 : (Cond.methodLink RX4 72 yX4_readSession) ∈ TB := TB_3 (i := 60) rfl rfl
set_option maxRecDepth 4000 in
theorem wd_623 : (Cond.instanceMethod yX4_readSession) ∈ TB := TB_3 (i := 61) rfl rfl
set_option maxRecDepth 4000 in
theorem wd_624 : (Cond.selects RX4 yX4_readSession yX4_readSession) ∈ TB := TB_3 (i := 62) rfl rfl
set_option maxRecDepth 4000 in
theorem wd_625 : (Cond.code yX4_readSession cX4_readSession 4 none) ∈ TB := TB_3 (i := 63) rfl rfl
set_option maxRecDepth 4000 in
theorem wd_626 : (Cond.methodLink RX4 132 yX4_readMember) ∈ TB := TB_3 (i := 64) rfl rfl
set_option maxRecDepth 4000 in
theorem wd_627 : (Cond.instanceMethod yX4_readMember) ∈ TB := TB_3 (i := 65) rfl rfl
set_option maxRecDepth 4000 in
theorem wd_628 : (Cond.selects RX4 yX4_readMember yX4_readMember) ∈ TB := TB_3 (i := 66) rfl rfl
set_option maxRecDepth 4000 in
theorem wd_629 : (Cond.code yX4_readMember cX4_readMember 5 none) ∈ TB := TB_3 (i := 67) rfl rfl
set_option maxRecDepth 4000 in
theorem wd_630 : (Cond.methodLink RX4 140 yX5_roleTold) ∈ TB := TB_3 (i := 68) rfl rfl
set_option maxRecDepth 4000 in
theorem wd_631 : (Cond.instanceMethod yX5_roleTold) ∈ TB := TB_3 (i := 69) rfl rfl
set_option maxRecDepth 4000 in
theorem wd_632 : (Cond.selects RX5 yX5_roleTold yX5_roleTold) ∈ TB := TB_3 (i := 70) rfl rfl
set_option maxRecDepth 4000 in
theorem wd_633 : (Cond.code yX5_roleTold cX5_roleTold 4 (some .int)) ∈ TB := TB_3 (i := 71) rfl rfl
set_option maxRecDepth 4000 in
theorem wd_634 : (Cond.methodLink RX4 136 yX5_headsIn) ∈ TB := TB_3 (i := 72) rfl rfl
set_option maxRecDepth 4000 in
theorem wd_635 : (Cond.instanceMethod yX5_headsIn) ∈ TB := TB_3 (i := 73) rfl rfl
set_option maxRecDepth 4000 in
theorem wd_636 : (Cond.selects RX5 yX5_headsIn yX5_headsIn) ∈ TB := TB_3 (i := 74) rfl rfl
set_option maxRecDepth 4000 in
theorem wd_637 : (Cond.code yX5_headsIn cX5_headsIn 2 (some .int)) ∈ TB := TB_3 (i := 75) rfl rfl
set_option maxRecDepth 4000 in
theorem wd_638 : (Cond.methodLink RX4 75 yX4_readLead) ∈ TB := TB_3 (i := 76) rfl rfl
set_option maxRecDepth 4000 in
theorem wd_639 : (Cond.instanceMethod yX4_readLead) ∈ TB := TB_3 (i := 77) rfl rfl
set_option maxRecDepth 4000 in
theorem wd_640 : (Cond.selects RX4 yX4_readLead yX4_readLead) ∈ TB := TB_3 (i := 78) rfl rfl
set_option maxRecDepth 4000 in
theorem wd_641 : (Cond.code yX4_readLead cX4_readLead 2 none) ∈ TB := TB_3 (i := 79) rfl rfl
set_option maxRecDepth 4000 in
theorem wd_642 : (Cond.methodLink RX4 78 yX4_readKeep) ∈ TB := TB_3 (i := 80) rfl rfl
set_option maxRecDepth 4000 in
theorem wd_643 : (Cond.instanceMethod yX4_readKeep) ∈ TB := TB_3 (i := 81) rfl rfl
set_option maxRecDepth 4000 in
theorem wd_644 : (Cond.selects RX4 yX4_readKeep yX4_readKeep) ∈ TB := TB_3 (i := 82) rfl rfl
set_option maxRecDepth 4000 in
theorem wd_645 : (Cond.code yX4_readKeep cX4_readKeep 2 none) ∈ TB := TB_3 (i := 83) rfl rfl
set_option maxRecDepth 4000 in
theorem wd_646 : (Cond.methodLink RX9 86 yX0_open) ∈ TB := TB_3 (i := 84) rfl rfl
set_option maxRecDepth 4000 in
theorem wd_647 : (Cond.instanceMethod yX0_open) ∈ TB := TB_3 (i := 85) rfl rfl
set_option maxRecDepth 4000 in
theorem wd_648 : (Cond.selects RX0 yX0_open yX0_open) ∈ TB := TB_3 (i := 86) rfl rfl
set_option maxRecDepth 4000 in
theorem wd_649 : (Cond.code yX0_open cX0_open 2 none) ∈ TB := TB_3 (i := 87) rfl rfl
set_option maxRecDepth 4000 in
theorem wd_650 : (Cond.methodLink RX0 43 yX8_open) ∈ TB := TB_3 (i := 88) rfl rfl
set_option maxRecDepth 4000 in
theorem wd_651 : (Cond.instanceMethod yX8_open) ∈ TB := TB_3 (i := 89) rfl rfl
set_option maxRecDepth 4000 in
theorem wd_652 : (Cond.selects RX8 yX8_open yX8_open) ∈ TB := TB_3 (i := 90) rfl rfl
set_option maxRecDepth 4000 in
theorem wd_653 : (Cond.code yX8_open cX8_open 2 none) ∈ TB := TB_3 (i := 91) rfl rfl
set_option maxRecDepth 4000 in
theorem wd_654 : (Cond.methodLink RX8 27 arraycopyName) ∈ TB := TB_3 (i := 92) rfl rfl
set_option maxRecDepth 4000 in
theorem wd_655 : (Cond.static arraycopyName) ∈ TB := TB_3 (i := 93) rfl rfl
set_option maxRecDepth 4000 in
theorem wd_656 : (Cond.native arraycopyName) ∈ TB := TB_3 (i := 94) rfl rfl
set_option maxRecDepth 4000 in
theorem wd_657 : (Cond.methodLink RX8 35 yJ7_fill_53178) ∈ TB := TB_3 (i := 95) rfl rfl
set_option maxRecDepth 4000 in
theorem wd_658 : (Cond.static yJ7_fill_53178) ∈ TB := TB_3 (i := 96) rfl rfl
set_option maxRecDepth 4000 in
theorem wd_659 : (Cond.code yJ7_fill_53178 cJ7_fill_53178 4 none) ∈ TB := TB_3 (i := 97) rfl rfl
set_option maxRecDepth 4000 in
theorem wd_660 : (Cond.methodLink RX0 47 yJ7_fill_53178) ∈ TB := TB_3 (i := 98) rfl rfl
set_option maxRecDepth 4000 in
theorem wd_661 : (Cond.methodLink RX9 90 yX2_forget) ∈ TB := TB_3 (i := 99) rfl rfl
set_option maxRecDepth 4000 in
theorem wd_662 : (Cond.instanceMethod yX2_forget) ∈ TB := TB_3 (i := 100) rfl rfl
set_option maxRecDepth 4000 in
theorem wd_663 : (Cond.selects RX2 yX2_forget yX2_forget) ∈ TB := TB_3 (i := 101) rfl rfl
set_option maxRecDepth 4000 in
theorem wd_664 : (Cond.code yX2_forget cX2_forget 1 none) ∈ TB := TB_3 (i := 102) rfl rfl
set_option maxRecDepth 4000 in
theorem wd_665 : (Cond.arrayClass .byte) ∈ TB := TB_3 (i := 103) rfl rfl
set_option maxRecDepth 4000 in
theorem wd_666 : (Cond.methodLink RL 37 yX9_fault) ∈ TB := TB_3 (i := 104) rfl rfl
set_option maxRecDepth 4000 in
theorem wd_667 : (Cond.instanceMethod yX9_fault) ∈ TB := TB_3 (i := 105) rfl rfl
set_option maxRecDepth 4000 in
theorem wd_668 : (Cond.selects RX9 yX9_fault yX9_fault) ∈ TB := TB_3 (i := 106) rfl rfl
set_option maxRecDepth 4000 in
theorem wd_669 : (Cond.code yX9_fault cX9_fault 2 (some .int)) ∈ TB := TB_3 (i := 107) rfl rfl
set_option maxRecDepth 4000 in
theorem wd_670 : (Cond.methodLink RL 57 yX9_of) ∈ TB := TB_3 (i := 108) rfl rfl
set_option maxRecDepth 4000 in
theorem wd_671 : (Cond.instanceMethod yX9_of) ∈ TB := TB_3 (i := 109) rfl rfl
set_option maxRecDepth 4000 in
theorem wd_672 : (Cond.selects RX9 yX9_of yX9_of) ∈ TB := TB_3 (i := 110) rfl rfl
set_option maxRecDepth 4000 in
theorem wd_673 : (Cond.code yX9_of cX9_of 5 (some .int)) ∈ TB := TB_3 (i := 111) rfl rfl
set_option maxRecDepth 4000 in
theorem wd_674 : (Cond.methodLink RX9 174 yX9_isSession) ∈ TB := TB_3 (i := 112) rfl rfl
set_option maxRecDepth 4000 in
theorem wd_676 : (Cond.instanceMethod yX9_isSession) ∈ TB := TB_3 (i := 114) rfl rfl
set_option maxRecDepth 4000 in
theorem wd_677 : (Cond.code yX9_isSession cX9_isSession 2 (some .boolean)) ∈ TB := TB_3 (i := 115) rfl rfl
set_option maxRecDepth 4000 in
theorem wd_678 : (Cond.methodLink RX9 207 yX9_isChoice) ∈ TB := TB_3 (i := 116) rfl rfl
set_option maxRecDepth 4000 in
theorem wd_679 : (Cond.static yX9_isChoice) ∈ TB := TB_3 (i := 117) rfl rfl
set_option maxRecDepth 4000 in
theorem wd_680 : (Cond.code yX9_isChoice cX9_isChoice 2 (some .boolean)) ∈ TB := TB_3 (i := 118) rfl rfl
set_option maxRecDepth 4000 in
theorem wd_681 : (Cond.methodLink RL 62 yX9_seat) ∈ TB := TB_3 (i := 119) rfl rfl
set_option maxRecDepth 4000 in
theorem wd_682 : (Cond.instanceMethod yX9_seat) ∈ TB := TB_3 (i := 120) rfl rfl
set_option maxRecDepth 4000 in
theorem wd_683 : (Cond.selects RX9 yX9_seat yX9_seat) ∈ TB := TB_3 (i := 121) rfl rfl
set_option maxRecDepth 4000 in
theorem wd_684 : (Cond.code yX9_seat cX9_seat 3 (some .int)) ∈ TB := TB_3 (i := 122) rfl rfl
set_option maxRecDepth 4000 in
theorem wd_685 : (Cond.methodLink RX9 217 yX9_isSeat) ∈ TB := TB_3 (i := 123) rfl rfl
set_option maxRecDepth 4000 in
theorem wd_687 : (Cond.instanceMethod yX9_isSeat) ∈ TB := TB_3 (i := 125) rfl rfl
set_option maxRecDepth 4000 in
theorem wd_688 : (Cond.code yX9_isSeat cX9_isSeat 3 (some .boolean)) ∈ TB := TB_3 (i := 126) rfl rfl
set_option maxRecDepth 4000 in
theorem wd_689 : (Cond.methodLink RL 66 yX9_role) ∈ TB := TB_3 (i := 127) rfl rfl
set_option maxRecDepth 4000 in
theorem wd_690 : (Cond.instanceMethod yX9_role) ∈ TB := TB_3 (i := 128) rfl rfl
set_option maxRecDepth 4000 in
theorem wd_691 : (Cond.selects RX9 yX9_role yX9_role) ∈ TB := TB_3 (i := 129) rfl rfl
set_option maxRecDepth 4000 in
theorem wd_692 : (Cond.code yX9_role cX9_role 3 (some .int)) ∈ TB := TB_3 (i := 130) rfl rfl
set_option maxRecDepth 4000 in
theorem wd_693 : (Cond.methodLink RX9 148 yX9_isPlayer) ∈ TB := TB_3 (i := 131) rfl rfl
set_option maxRecDepth 4000 in
theorem wd_695 : (Cond.instanceMethod yX9_isPlayer) ∈ TB := TB_3 (i := 133) rfl rfl
set_option maxRecDepth 4000 in
theorem wd_696 : (Cond.code yX9_isPlayer cX9_isPlayer 2 (some .boolean)) ∈ TB := TB_3 (i := 134) rfl rfl
set_option maxRecDepth 4000 in
theorem wd_697 : (Cond.methodLink RX9 223 yX8_roleIn) ∈ TB := TB_3 (i := 135) rfl rfl
set_option maxRecDepth 4000 in
theorem wd_698 : (Cond.instanceMethod yX8_roleIn) ∈ TB := TB_3 (i := 136) rfl rfl
set_option maxRecDepth 4000 in
theorem wd_699 : (Cond.selects RX8 yX8_roleIn yX8_roleIn) ∈ TB := TB_3 (i := 137) rfl rfl
set_option maxRecDepth 4000 in
theorem wd_700 : (Cond.code yX8_roleIn cX8_roleIn 5 (some .int)) ∈ TB := TB_3 (i := 138) rfl rfl
set_option maxRecDepth 4000 in
theorem wd_701 : (Cond.methodLink RX8 69 yX5_roleTold) ∈ TB := TB_3 (i := 139) rfl rfl
set_option maxRecDepth 4000 in
theorem wd_702 : (Cond.methodLink RL 243 yX9_openSeats) ∈ TB := TB_3 (i := 140) rfl rfl
set_option maxRecDepth 4000 in
theorem wd_703 : (Cond.instanceMethod yX9_openSeats) ∈ TB := TB_3 (i := 141) rfl rfl
set_option maxRecDepth 4000 in
theorem wd_704 : (Cond.selects RX9 yX9_openSeats yX9_openSeats) ∈ TB := TB_3 (i := 142) rfl rfl
set_option maxRecDepth 4000 in
theorem wd_705 : (Cond.code yX9_openSeats cX9_openSeats 2 (some .int)) ∈ TB := TB_3 (i := 143) rfl rfl
set_option maxRecDepth 4000 in
theorem wd_706 : (Cond.methodLink RX9 188 yX8_openBits) ∈ TB := TB_3 (i := 144) rfl rfl
set_option maxRecDepth 4000 in
theorem wd_707 : (Cond.instanceMethod yX8_openBits) ∈ TB := TB_3 (i := 145) rfl rfl
set_option maxRecDepth 4000 in
theorem wd_708 : (Cond.selects RX8 yX8_openBits yX8_openBits) ∈ TB := TB_3 (i := 146) rfl rfl
set_option maxRecDepth 4000 in
theorem wd_709 : (Cond.code yX8_openBits cX8_openBits 5 (some .int)) ∈ TB := TB_3 (i := 147) rfl rfl
set_option maxRecDepth 4000 in
theorem wd_710 : (Cond.methodLink RL 191 yX9_idle) ∈ TB := TB_3 (i := 148) rfl rfl
set_option maxRecDepth 4000 in
theorem wd_711 : (Cond.instanceMethod yX9_idle) ∈ TB := TB_3 (i := 149) rfl rfl
set_option maxRecDepth 4000 in
theorem wd_712 : (Cond.selects RX9 yX9_idle yX9_idle) ∈ TB := TB_3 (i := 150) rfl rfl
set_option maxRecDepth 4000 in
theorem wd_713 : (Cond.code yX9_idle cX9_idle 3 (some .int)) ∈ TB := TB_3 (i := 151) rfl rfl
set_option maxRecDepth 4000 in
theorem wd_714 : (Cond.methodLink RX9 162 yX8_sessionsOf) ∈ TB := TB_3 (i := 152) rfl rfl
set_option maxRecDepth 4000 in
theorem wd_715 : (Cond.instanceMethod yX8_sessionsOf) ∈ TB := TB_3 (i := 153) rfl rfl
set_option maxRecDepth 4000 in
theorem wd_716 : (Cond.selects RX8 yX8_sessionsOf yX8_sessionsOf) ∈ TB := TB_3 (i := 154) rfl rfl
set_option maxRecDepth 4000 in
theorem wd_717 : (Cond.code yX8_sessionsOf cX8_sessionsOf 5 (some .int)) ∈ TB := TB_3 (i := 155) rfl rfl
set_option maxRecDepth 4000 in
theorem wd_718 : (Cond.methodLink RX8 76 yX8_roleIn) ∈ TB := TB_3 (i := 156) rfl rfl
set_option maxRecDepth 4000 in
theorem wd_719 : (Cond.methodLink RX9 156 yX0_paidTo) ∈ TB := TB_3 (i := 157) rfl rfl
set_option maxRecDepth 4000 in
theorem wd_720 : (Cond.instanceMethod yX0_paidTo) ∈ TB := TB_3 (i := 158) rfl rfl
set_option maxRecDepth 4000 in
theorem wd_721 : (Cond.selects RX0 yX0_paidTo yX0_paidTo) ∈ TB := TB_3 (i := 159) rfl rfl
set_option maxRecDepth 4000 in
theorem wd_722 : (Cond.code yX0_paidTo cX0_paidTo 5 (some .int)) ∈ TB := TB_3 (i := 160) rfl rfl
set_option maxRecDepth 4000 in
theorem wd_723 : (Cond.methodLink RX0 133 yX0_paidBoth) ∈ TB := TB_3 (i := 161) rfl rfl
set_option maxRecDepth 4000 in
theorem wd_724 : (Cond.instanceMethod yX0_paidBoth) ∈ TB := TB_3 (i := 162) rfl rfl
set_option maxRecDepth 4000 in
theorem wd_725 : (Cond.selects RX0 yX0_paidBoth yX0_paidBoth) ∈ TB := TB_3 (i := 163) rfl rfl
set_option maxRecDepth 4000 in
theorem wd_726 : (Cond.code yX0_paidBoth cX0_paidBoth 3 (some .int)) ∈ TB := TB_3 (i := 164) rfl rfl
set_option maxRecDepth 4000 in
theorem wd_727 : (Cond.methodLink RL 267 yX9_count) ∈ TB := TB_3 (i := 165) rfl rfl
set_option maxRecDepth 4000 in
theorem wd_728 : (Cond.instanceMethod yX9_count) ∈ TB := TB_3 (i := 166) rfl rfl
set_option maxRecDepth 4000 in
theorem wd_729 : (Cond.selects RX9 yX9_count yX9_count) ∈ TB := TB_3 (i := 167) rfl rfl
set_option maxRecDepth 4000 in
theorem wd_730 : (Cond.code yX9_count cX9_count 2 (some .int)) ∈ TB := TB_3 (i := 168) rfl rfl
set_option maxRecDepth 4000 in
theorem wd_731 : (Cond.methodLink RX9 244 yX8_openInAll) ∈ TB := TB_3 (i := 169) rfl rfl
set_option maxRecDepth 4000 in
theorem wd_732 : (Cond.instanceMethod yX8_openInAll) ∈ TB := TB_3 (i := 170) rfl rfl
set_option maxRecDepth 4000 in
theorem wd_733 : (Cond.selects RX8 yX8_openInAll yX8_openInAll) ∈ TB := TB_3 (i := 171) rfl rfl
set_option maxRecDepth 4000 in
theorem wd_734 : (Cond.code yX8_openInAll cX8_openInAll 4 (some .int)) ∈ TB := TB_3 (i := 172) rfl rfl
set_option maxRecDepth 4000 in
theorem wd_735 : (Cond.methodLink RX8 80 yX8_openBits) ∈ TB := TB_3 (i := 173) rfl rfl
set_option maxRecDepth 4000 in
theorem wd_736 : (Cond.methodLink RX8 83 yJ6_bitCount_0f7a4) ∈ TB := TB_3 (i := 174) rfl rfl
set_option maxRecDepth 4000 in
theorem wd_737 : (Cond.static yJ6_bitCount_0f7a4) ∈ TB := TB_3 (i := 175) rfl rfl
set_option maxRecDepth 4000 in
theorem wd_738 : (Cond.code yJ6_bitCount_0f7a4 cJ6_bitCount_0f7a4 1 (some .int)) ∈ TB := TB_3 (i := 176) rfl rfl
set_option maxRecDepth 4000 in
theorem wd_739 : (Cond.constant RJ6 265 (1431655765)) ∈ TB := TB_3 (i := 177) rfl rfl
set_option maxRecDepth 4000 in
theorem wd_740 : (Cond.constant RJ6 266 (858993459)) ∈ TB := TB_3 (i := 178) rfl rfl
set_option maxRecDepth 4000 in
theorem wd_741 : (Cond.constant RJ6 267 (252645135)) ∈ TB := TB_3 (i := 179) rfl rfl
set_option maxRecDepth 4000 in
theorem wd_742 : (Cond.methodLink RL 70 yX9_pays) ∈ TB := TB_3 (i := 180) rfl rfl
set_option maxRecDepth 4000 in
theorem wd_743 : (Cond.instanceMethod yX9_pays) ∈ TB := TB_3 (i := 181) rfl rfl
set_option maxRecDepth 4000 in
theorem wd_744 : (Cond.selects RX9 yX9_pays yX9_pays) ∈ TB := TB_3 (i := 182) rfl rfl
set_option maxRecDepth 4000 in
theorem wd_745 : (Cond.code yX9_pays cX9_pays 4 (some .int)) ∈ TB := TB_3 (i := 183) rfl rfl
set_option maxRecDepth 4000 in
theorem wd_746 : (Cond.methodLink RX9 102 yX9_isLand) ∈ TB := TB_3 (i := 184) rfl rfl
set_option maxRecDepth 4000 in
theorem wd_748 : (Cond.instanceMethod yX9_isLand) ∈ TB := TB_3 (i := 186) rfl rfl
set_option maxRecDepth 4000 in
theorem wd_749 : (Cond.code yX9_isLand cX9_isLand 2 (some .boolean)) ∈ TB := TB_3 (i := 187) rfl rfl
set_option maxRecDepth 4000 in
theorem wd_750 : (Cond.methodLink RX9 251 yX8_payable) ∈ TB := TB_3 (i := 188) rfl rfl
set_option maxRecDepth 4000 in
theorem wd_751 : (Cond.instanceMethod yX8_payable) ∈ TB := TB_3 (i := 189) rfl rfl
set_option maxRecDepth 4000 in
theorem wd_752 : (Cond.selects RX8 yX8_payable yX8_payable) ∈ TB := TB_3 (i := 190) rfl rfl
set_option maxRecDepth 4000 in
theorem wd_753 : (Cond.code yX8_payable cX8_payable 4 (some .boolean)) ∈ TB := TB_3 (i := 191) rfl rfl
set_option maxRecDepth 4000 in
theorem wd_754 : (Cond.methodLink RX8 41 yX8_hasRole) ∈ TB := TB_3 (i := 192) rfl rfl
set_option maxRecDepth 4000 in
theorem wd_755 : (Cond.instanceMethod yX8_hasRole) ∈ TB := TB_3 (i := 193) rfl rfl
set_option maxRecDepth 4000 in
theorem wd_756 : (Cond.selects RX8 yX8_hasRole yX8_hasRole) ∈ TB := TB_3 (i := 194) rfl rfl
set_option maxRecDepth 4000 in
theorem wd_757 : (Cond.code yX8_hasRole cX8_hasRole 3 (some .boolean)) ∈ TB := TB_3 (i := 195) rfl rfl
set_option maxRecDepth 4000 in
theorem wd_758 : (Cond.methodLink RL 74 yX9_paidBy) ∈ TB := TB_3 (i := 196) rfl rfl
set_option maxRecDepth 4000 in
theorem wd_759 : (Cond.instanceMethod yX9_paidBy) ∈ TB := TB_3 (i := 197) rfl rfl
set_option maxRecDepth 4000 in
theorem wd_760 : (Cond.selects RX9 yX9_paidBy yX9_paidBy) ∈ TB := TB_3 (i := 198) rfl rfl
set_option maxRecDepth 4000 in
theorem wd_761 : (Cond.code yX9_paidBy cX9_paidBy 3 (some .int)) ∈ TB := TB_3 (i := 199) rfl rfl
set_option maxRecDepth 4000 in
theorem wd_762 : (Cond.methodLink RX9 168 yX8_payers) ∈ TB := TB_3 (i := 200) rfl rfl
set_option maxRecDepth 4000 in
theorem wd_763 : (Cond.instanceMethod yX8_payers) ∈ TB := TB_3 (i := 201) rfl rfl
set_option maxRecDepth 4000 in
theorem wd_764 : (Cond.selects RX8 yX8_payers yX8_payers) ∈ TB := TB_3 (i := 202) rfl rfl
set_option maxRecDepth 4000 in
theorem wd_765 : (Cond.code yX8_payers cX8_payers 6 (some .int)) ∈ TB := TB_3 (i := 203) rfl rfl
set_option maxRecDepth 4000 in
theorem wd_766 : (Cond.methodLink RX8 49 yX8_payable) ∈ TB := TB_3 (i := 204) rfl rfl
set_option maxRecDepth 4000 in
theorem wd_767 : (Cond.methodLink RL 78 yX9_answer) ∈ TB := TB_3 (i := 205) rfl rfl
set_option maxRecDepth 4000 in
theorem wd_768 : (Cond.instanceMethod yX9_answer) ∈ TB := TB_3 (i := 206) rfl rfl
set_option maxRecDepth 4000 in
theorem wd_769 : (Cond.selects RX9 yX9_answer yX9_answer) ∈ TB := TB_3 (i := 207) rfl rfl
set_option maxRecDepth 4000 in
theorem wd_770 : (Cond.code yX9_answer cX9_answer 3 (some .int)) ∈ TB := TB_3 (i := 208) rfl rfl
set_option maxRecDepth 4000 in
theorem wd_771 : (Cond.methodLink RX9 255 yX8_answerOne) ∈ TB := TB_3 (i := 209) rfl rfl
set_option maxRecDepth 4000 in
theorem wd_772 : (Cond.instanceMethod yX8_answerOne) ∈ TB := TB_3 (i := 210) rfl rfl
set_option maxRecDepth 4000 in
theorem wd_773 : (Cond.selects RX8 yX8_answerOne yX8_answerOne) ∈ TB := TB_3 (i := 211) rfl rfl
set_option maxRecDepth 4000 in
theorem wd_774 : (Cond.code yX8_answerOne cX8_answerOne 3 (some .boolean)) ∈ TB := TB_3 (i := 212) rfl rfl
set_option maxRecDepth 4000 in
theorem wd_775 : (Cond.methodLink RX8 53 yX8_paysSome) ∈ TB := TB_3 (i := 213) rfl rfl
set_option maxRecDepth 4000 in
theorem wd_776 : (Cond.instanceMethod yX8_paysSome) ∈ TB := TB_3 (i := 214) rfl rfl
set_option maxRecDepth 4000 in
theorem wd_777 : (Cond.selects RX8 yX8_paysSome yX8_paysSome) ∈ TB := TB_3 (i := 215) rfl rfl
set_option maxRecDepth 4000 in
theorem wd_778 : (Cond.code yX8_paysSome cX8_paysSome 3 (some .boolean)) ∈ TB := TB_3 (i := 216) rfl rfl
set_option maxRecDepth 4000 in
theorem wd_779 : (Cond.methodLink RL 235 yX9_answers) ∈ TB := TB_3 (i := 217) rfl rfl
set_option maxRecDepth 4000 in
theorem wd_780 : (Cond.instanceMethod yX9_answers) ∈ TB := TB_3 (i := 218) rfl rfl
set_option maxRecDepth 4000 in
theorem wd_781 : (Cond.selects RX9 yX9_answers yX9_answers) ∈ TB := TB_3 (i := 219) rfl rfl
set_option maxRecDepth 4000 in
theorem wd_782 : (Cond.code yX9_answers cX9_answers 2 (some .int)) ∈ TB := TB_3 (i := 220) rfl rfl
set_option maxRecDepth 4000 in
theorem wd_783 : (Cond.methodLink RX9 258 yX8_answerBits) ∈ TB := TB_3 (i := 221) rfl rfl
set_option maxRecDepth 4000 in
theorem wd_784 : (Cond.instanceMethod yX8_answerBits) ∈ TB := TB_3 (i := 222) rfl rfl
set_option maxRecDepth 4000 in
theorem wd_785 : (Cond.selects RX8 yX8_answerBits yX8_answerBits) ∈ TB := TB_3 (i := 223) rfl rfl
set_option maxRecDepth 4000 in
theorem wd_786 : (Cond.code yX8_answerBits cX8_answerBits 5 (some .int)) ∈ TB := TB_3 (i := 224) rfl rfl
set_option maxRecDepth 4000 in
theorem wd_787 : (Cond.methodLink RX8 56 yX8_answerOne) ∈ TB := TB_3 (i := 225) rfl rfl
set_option maxRecDepth 4000 in
theorem wd_788 : (Cond.methodLink RL 82 yX9_ring) ∈ TB := TB_3 (i := 226) rfl rfl
set_option maxRecDepth 4000 in
theorem wd_789 : (Cond.instanceMethod yX9_ring) ∈ TB := TB_3 (i := 227) rfl rfl
set_option maxRecDepth 4000 in
theorem wd_790 : (Cond.selects RX9 yX9_ring yX9_ring) ∈ TB := TB_3 (i := 228) rfl rfl
set_option maxRecDepth 4000 in
theorem wd_791 : (Cond.code yX9_ring cX9_ring 2 (some .int)) ∈ TB := TB_3 (i := 229) rfl rfl
set_option maxRecDepth 4000 in
theorem wd_792 : (Cond.methodLink RX9 261 yX8_ringBits) ∈ TB := TB_3 (i := 230) rfl rfl
set_option maxRecDepth 4000 in
theorem wd_793 : (Cond.instanceMethod yX8_ringBits) ∈ TB := TB_3 (i := 231) rfl rfl
set_option maxRecDepth 4000 in
theorem wd_794 : (Cond.selects RX8 yX8_ringBits yX8_ringBits) ∈ TB := TB_3 (i := 232) rfl rfl
set_option maxRecDepth 4000 in
theorem wd_795 : (Cond.code yX8_ringBits cX8_ringBits 6 (some .int)) ∈ TB := TB_3 (i := 233) rfl rfl
set_option maxRecDepth 4000 in
theorem wd_796 : (Cond.methodLink RX8 59 yX8_answerBits) ∈ TB := TB_3 (i := 234) rfl rfl
set_option maxRecDepth 4000 in
theorem wd_797 : (Cond.methodLink RL 86 yX9_rings) ∈ TB := TB_3 (i := 235) rfl rfl
set_option maxRecDepth 4000 in
theorem wd_798 : (Cond.instanceMethod yX9_rings) ∈ TB := TB_3 (i := 236) rfl rfl
set_option maxRecDepth 4000 in
theorem wd_799 : (Cond.selects RX9 yX9_rings yX9_rings) ∈ TB := TB_3 (i := 237) rfl rfl
set_option maxRecDepth 4000 in
theorem wd_800 : (Cond.code yX9_rings cX9_rings 3 (some .int)) ∈ TB := TB_3 (i := 238) rfl rfl
set_option maxRecDepth 4000 in
theorem wd_801 : (Cond.methodLink RX9 264 yJ6_numberOfTrailingZeros_0f7a4) ∈ TB := TB_3 (i := 239) rfl rfl
set_option maxRecDepth 4000 in
theorem wd_802 : (Cond.static yJ6_numberOfTrailingZeros_0f7a4) ∈ TB := TB_4 (i := 0) rfl rfl
set_option maxRecDepth 4000 in
theorem wd_803 : (Cond.code yJ6_numberOfTrailingZeros_0f7a4 cJ6_numberOfTrailingZeros_0f7a4 2 (some .int)) ∈ TB := TB_4 (i := 1) rfl rfl
set_option maxRecDepth 4000 in
theorem wd_804 : (Cond.constant RJ6 264 (65536)) ∈ TB := TB_4 (i := 2) rfl rfl
set_option maxRecDepth 4000 in
theorem wd_805 : (Cond.methodLink RL 174 yX9_pairs) ∈ TB := TB_4 (i := 3) rfl rfl
set_option maxRecDepth 4000 in
theorem wd_806 : (Cond.instanceMethod yX9_pairs) ∈ TB := TB_4 (i := 4) rfl rfl
set_option maxRecDepth 4000 in
theorem wd_807 : (Cond.selects RX9 yX9_pairs yX9_pairs) ∈ TB := TB_4 (i := 5) rfl rfl
set_option maxRecDepth 4000 in
theorem wd_808 : (Cond.code yX9_pairs cX9_pairs 7 (some .int)) ∈ TB := TB_4 (i := 6) rfl rfl
set_option maxRecDepth 4000 in
theorem wd_809 : (Cond.methodLink RX9 267 yX9_areTerms) ∈ TB := TB_4 (i := 7) rfl rfl
set_option maxRecDepth 4000 in
theorem wd_810 : (Cond.static yX9_areTerms) ∈ TB := TB_4 (i := 8) rfl rfl
set_option maxRecDepth 4000 in
theorem wd_811 : (Cond.code yX9_areTerms cX9_areTerms 2 (some .boolean)) ∈ TB := TB_4 (i := 9) rfl rfl
set_option maxRecDepth 4000 in
theorem wd_812 : (Cond.methodLink RX9 270 yX8_copyFrom) ∈ TB := TB_4 (i := 10) rfl rfl
set_option maxRecDepth 4000 in
theorem wd_813 : (Cond.instanceMethod yX8_copyFrom) ∈ TB := TB_4 (i := 11) rfl rfl
set_option maxRecDepth 4000 in
theorem wd_814 : (Cond.selects RX8 yX8_copyFrom yX8_copyFrom) ∈ TB := TB_4 (i := 12) rfl rfl
set_option maxRecDepth 4000 in
theorem wd_815 : (Cond.code yX8_copyFrom cX8_copyFrom 2 none) ∈ TB := TB_4 (i := 13) rfl rfl
set_option maxRecDepth 4000 in
theorem wd_816 : (Cond.methodLink RX9 274 yX8_setTerms) ∈ TB := TB_4 (i := 14) rfl rfl
set_option maxRecDepth 4000 in
theorem wd_817 : (Cond.instanceMethod yX8_setTerms) ∈ TB := TB_4 (i := 15) rfl rfl
set_option maxRecDepth 4000 in
theorem wd_818 : (Cond.selects RX8 yX8_setTerms yX8_setTerms) ∈ TB := TB_4 (i := 16) rfl rfl
set_option maxRecDepth 4000 in
theorem wd_819 : (Cond.code yX8_setTerms cX8_setTerms 4 none) ∈ TB := TB_4 (i := 17) rfl rfl
set_option maxRecDepth 4000 in
theorem wd_820 : (Cond.methodLink RL 259 yX9_reached) ∈ TB := TB_4 (i := 18) rfl rfl
set_option maxRecDepth 4000 in
theorem wd_821 : (Cond.instanceMethod yX9_reached) ∈ TB := TB_4 (i := 19) rfl rfl
set_option maxRecDepth 4000 in
theorem wd_822 : (Cond.selects RX9 yX9_reached yX9_reached) ∈ TB := TB_4 (i := 20) rfl rfl
set_option maxRecDepth 4000 in
theorem wd_823 : (Cond.code yX9_reached cX9_reached 3 (some .int)) ∈ TB := TB_4 (i := 21) rfl rfl
set_option maxRecDepth 4000 in
theorem wd_824 : (Cond.methodLink RX9 278 yX3_think) ∈ TB := TB_4 (i := 22) rfl rfl
set_option maxRecDepth 4000 in
theorem wd_825 : (Cond.instanceMethod yX3_think) ∈ TB := TB_4 (i := 23) rfl rfl
set_option maxRecDepth 4000 in
theorem wd_826 : (Cond.selects RX3 yX3_think yX3_think) ∈ TB := TB_4 (i := 24) rfl rfl
set_option maxRecDepth 4000 in
theorem wd_827 : (Cond.code yX3_think cX3_think 7 none) ∈ TB := TB_4 (i := 25) rfl rfl
set_option maxRecDepth 4000 in
theorem wd_828 : (Cond.methodLink RX3 24 yX5_headsIn) ∈ TB := TB_4 (i := 26) rfl rfl
set_option maxRecDepth 4000 in
theorem wd_829 : (Cond.methodLink RX3 37 yX3_partMoney) ∈ TB := TB_4 (i := 27) rfl rfl
set_option maxRecDepth 4000 in
theorem wd_830 : (Cond.instanceMethod yX3_partMoney) ∈ TB := TB_4 (i := 28) rfl rfl
set_option maxRecDepth 4000 in
theorem wd_831 : (Cond.selects RX3 yX3_partMoney yX3_partMoney) ∈ TB := TB_4 (i := 29) rfl rfl
set_option maxRecDepth 4000 in
theorem wd_832 : (Cond.code yX3_partMoney cX3_partMoney 6 none) ∈ TB := TB_4 (i := 30) rfl rfl
set_option maxRecDepth 4000 in
theorem wd_833 : (Cond.methodLink RX3 61 yX5_leadsIn) ∈ TB := TB_4 (i := 31) rfl rfl
set_option maxRecDepth 4000 in
theorem wd_834 : (Cond.instanceMethod yX5_leadsIn) ∈ TB := TB_4 (i := 32) rfl rfl
set_option maxRecDepth 4000 in
theorem wd_835 : (Cond.selects RX5 yX5_leadsIn yX5_leadsIn) ∈ TB := TB_4 (i := 33) rfl rfl
set_option maxRecDepth 4000 in
theorem wd_836 : (Cond.code yX5_leadsIn cX5_leadsIn 4 (some .int)) ∈ TB := TB_4 (i := 34) rfl rfl
set_option maxRecDepth 4000 in
theorem wd_837 : (Cond.constantLong RX3 70 (100)) ∈ TB := TB_4 (i := 35) rfl rfl
set_option maxRecDepth 4000 in
theorem wd_838 : (Cond.methodLink RX3 75 yX3_handOut) ∈ TB := TB_4 (i := 36) rfl rfl
set_option maxRecDepth 4000 in
theorem wd_839 : (Cond.instanceMethod yX3_handOut) ∈ TB := TB_4 (i := 37) rfl rfl
set_option maxRecDepth 4000 in
theorem wd_840 : (Cond.selects RX3 yX3_handOut yX3_handOut) ∈ TB := TB_4 (i := 38) rfl rfl
set_option maxRecDepth 4000 in
theorem wd_841 : (Cond.code yX3_handOut cX3_handOut 9 none) ∈ TB := TB_4 (i := 39) rfl rfl
set_option maxRecDepth 4000 in
theorem wd_842 : (Cond.methodLink RX3 53 yX5_roleAt) ∈ TB := TB_4 (i := 40) rfl rfl
set_option maxRecDepth 4000 in
theorem wd_843 : (Cond.instanceMethod yX5_roleAt) ∈ TB := TB_4 (i := 41) rfl rfl
set_option maxRecDepth 4000 in
theorem wd_844 : (Cond.selects RX5 yX5_roleAt yX5_roleAt) ∈ TB := TB_4 (i := 42) rfl rfl
set_option maxRecDepth 4000 in
theorem wd_845 : (Cond.code yX5_roleAt cX5_roleAt 3 (some .int)) ∈ TB := TB_4 (i := 43) rfl rfl
set_option maxRecDepth 4000 in
theorem wd_846 : (Cond.methodLink RX3 41 yJ7_fill_53178) ∈ TB := TB_4 (i := 44) rfl rfl
set_option maxRecDepth 4000 in
theorem wd_847 : (Cond.methodLink RX3 47 yX8_whoAt) ∈ TB := TB_4 (i := 45) rfl rfl
set_option maxRecDepth 4000 in
theorem wd_848 : (Cond.instanceMethod yX8_whoAt) ∈ TB := TB_4 (i := 46) rfl rfl
set_option maxRecDepth 4000 in
theorem wd_849 : (Cond.selects RX8 yX8_whoAt yX8_whoAt) ∈ TB := TB_4 (i := 47) rfl rfl
set_option maxRecDepth 4000 in
theorem wd_850 : (Cond.code yX8_whoAt cX8_whoAt 5 (some .int)) ∈ TB := TB_4 (i := 48) rfl rfl
set_option maxRecDepth 4000 in
theorem wd_851 : (Cond.methodLink RX3 57 yX8_fateOf) ∈ TB := TB_4 (i := 49) rfl rfl
set_option maxRecDepth 4000 in
theorem wd_852 : (Cond.instanceMethod yX8_fateOf) ∈ TB := TB_4 (i := 50) rfl rfl
set_option maxRecDepth 4000 in
theorem wd_853 : (Cond.selects RX8 yX8_fateOf yX8_fateOf) ∈ TB := TB_4 (i := 51) rfl rfl
set_option maxRecDepth 4000 in
theorem wd_854 : (Cond.code yX8_fateOf cX8_fateOf 4 (some .int)) ∈ TB := TB_4 (i := 52) rfl rfl
set_option maxRecDepth 4000 in
theorem wd_855 : (Cond.methodLink RX9 282 yX3_headsPaid) ∈ TB := TB_4 (i := 53) rfl rfl
set_option maxRecDepth 4000 in
theorem wd_856 : (Cond.instanceMethod yX3_headsPaid) ∈ TB := TB_4 (i := 54) rfl rfl
set_option maxRecDepth 4000 in
theorem wd_857 : (Cond.selects RX3 yX3_headsPaid yX3_headsPaid) ∈ TB := TB_4 (i := 55) rfl rfl
set_option maxRecDepth 4000 in
theorem wd_858 : (Cond.code yX3_headsPaid cX3_headsPaid 3 (some .int)) ∈ TB := TB_4 (i := 56) rfl rfl
set_option maxRecDepth 4000 in
theorem wd_859 : (Cond.methodLink RL 90 yX9_play) ∈ TB := TB_4 (i := 57) rfl rfl
set_option maxRecDepth 4000 in
theorem wd_860 : (Cond.instanceMethod yX9_play) ∈ TB := TB_4 (i := 58) rfl rfl
set_option maxRecDepth 4000 in
theorem wd_861 : (Cond.selects RX9 yX9_play yX9_play) ∈ TB := TB_4 (i := 59) rfl rfl
set_option maxRecDepth 4000 in
theorem wd_862 : (Cond.code yX9_play cX9_play 4 (some .int)) ∈ TB := TB_4 (i := 60) rfl rfl
set_option maxRecDepth 4000 in
theorem wd_863 : (Cond.methodLink RX9 286 yX9_isPlay) ∈ TB := TB_4 (i := 61) rfl rfl
set_option maxRecDepth 4000 in
theorem wd_865 : (Cond.instanceMethod yX9_isPlay) ∈ TB := TB_4 (i := 63) rfl rfl
set_option maxRecDepth 4000 in
theorem wd_866 : (Cond.code yX9_isPlay cX9_isPlay 4 (some .boolean)) ∈ TB := TB_4 (i := 64) rfl rfl
set_option maxRecDepth 4000 in
theorem wd_867 : (Cond.methodLink RX9 405 yX9_isCopies) ∈ TB := TB_4 (i := 65) rfl rfl
set_option maxRecDepth 4000 in
theorem wd_868 : (Cond.static yX9_isCopies) ∈ TB := TB_4 (i := 66) rfl rfl
set_option maxRecDepth 4000 in
theorem wd_869 : (Cond.code yX9_isCopies cX9_isCopies 1 (some .boolean)) ∈ TB := TB_4 (i := 67) rfl rfl
set_option maxRecDepth 4000 in
theorem wd_870 : (Cond.constant RX9 422 (99999)) ∈ TB := TB_4 (i := 68) rfl rfl
set_option maxRecDepth 4000 in
theorem wd_871 : (Cond.methodLink RX9 289 yX9_isTooMuch) ∈ TB := TB_4 (i := 69) rfl rfl
set_option maxRecDepth 4000 in
theorem wd_873 : (Cond.instanceMethod yX9_isTooMuch) ∈ TB := TB_4 (i := 71) rfl rfl
set_option maxRecDepth 4000 in
theorem wd_874 : (Cond.code yX9_isTooMuch cX9_isTooMuch 3 (some .boolean)) ∈ TB := TB_4 (i := 72) rfl rfl
set_option maxRecDepth 4000 in
theorem wd_875 : (Cond.constant RX9 423 (300000000)) ∈ TB := TB_4 (i := 73) rfl rfl
set_option maxRecDepth 4000 in
theorem wd_876 : (Cond.methodLink RX9 292 yX2_remember) ∈ TB := TB_4 (i := 74) rfl rfl
set_option maxRecDepth 4000 in
theorem wd_877 : (Cond.instanceMethod yX2_remember) ∈ TB := TB_4 (i := 75) rfl rfl
set_option maxRecDepth 4000 in
theorem wd_878 : (Cond.selects RX2 yX2_remember yX2_remember) ∈ TB := TB_4 (i := 76) rfl rfl
set_option maxRecDepth 4000 in
theorem wd_879 : (Cond.code yX2_remember cX2_remember 2 none) ∈ TB := TB_4 (i := 77) rfl rfl
set_option maxRecDepth 4000 in
theorem wd_880 : (Cond.methodLink RX2 25 yX0_copyFrom) ∈ TB := TB_4 (i := 78) rfl rfl
set_option maxRecDepth 4000 in
theorem wd_881 : (Cond.instanceMethod yX0_copyFrom) ∈ TB := TB_4 (i := 79) rfl rfl
set_option maxRecDepth 4000 in
theorem wd_882 : (Cond.selects RX0 yX0_copyFrom yX0_copyFrom) ∈ TB := TB_4 (i := 80) rfl rfl
set_option maxRecDepth 4000 in
theorem wd_883 : (Cond.code yX0_copyFrom cX0_copyFrom 2 none) ∈ TB := TB_4 (i := 81) rfl rfl
set_option maxRecDepth 4000 in
theorem wd_884 : (Cond.methodLink RX0 57 yX8_copyFrom) ∈ TB := TB_4 (i := 82) rfl rfl
set_option maxRecDepth 4000 in
theorem wd_885 : (Cond.methodLink RX0 61 arraycopyName) ∈ TB := TB_4 (i := 83) rfl rfl
set_option maxRecDepth 4000 in
theorem wd_886 : (Cond.methodLink RX2 29 yJ9_min_7cf53) ∈ TB := TB_4 (i := 84) rfl rfl
set_option maxRecDepth 4000 in
theorem wd_887 : (Cond.methodLink RX9 296 yX0_enterPlay) ∈ TB := TB_4 (i := 85) rfl rfl
set_option maxRecDepth 4000 in
theorem wd_888 : (Cond.instanceMethod yX0_enterPlay) ∈ TB := TB_4 (i := 86) rfl rfl
set_option maxRecDepth 4000 in
theorem wd_889 : (Cond.selects RX0 yX0_enterPlay yX0_enterPlay) ∈ TB := TB_4 (i := 87) rfl rfl
set_option maxRecDepth 4000 in
theorem wd_890 : (Cond.code yX0_enterPlay cX0_enterPlay 7 none) ∈ TB := TB_4 (i := 88) rfl rfl
set_option maxRecDepth 4000 in
theorem wd_892 : (Cond.static yX9_slotOf) ∈ TB := TB_4 (i := 90) rfl rfl
set_option maxRecDepth 4000 in
theorem wd_893 : (Cond.code yX9_slotOf cX9_slotOf 3 (some .int)) ∈ TB := TB_4 (i := 91) rfl rfl
set_option maxRecDepth 4000 in
theorem wd_894 : (Cond.methodLink RL 94 yX9_year) ∈ TB := TB_4 (i := 92) rfl rfl
set_option maxRecDepth 4000 in
theorem wd_895 : (Cond.instanceMethod yX9_year) ∈ TB := TB_4 (i := 93) rfl rfl
set_option maxRecDepth 4000 in
theorem wd_896 : (Cond.selects RX9 yX9_year yX9_year) ∈ TB := TB_4 (i := 94) rfl rfl
set_option maxRecDepth 4000 in
theorem wd_897 : (Cond.code yX9_year cX9_year 1 (some .int)) ∈ TB := TB_4 (i := 95) rfl rfl
set_option maxRecDepth 4000 in
theorem wd_898 : (Cond.methodLink RX9 303 yX0_passYear) ∈ TB := TB_4 (i := 96) rfl rfl
set_option maxRecDepth 4000 in
theorem wd_899 : (Cond.instanceMethod yX0_passYear) ∈ TB := TB_4 (i := 97) rfl rfl
set_option maxRecDepth 4000 in
theorem wd_900 : (Cond.selects RX0 yX0_passYear yX0_passYear) ∈ TB := TB_4 (i := 98) rfl rfl
set_option maxRecDepth 4000 in
theorem wd_901 : (Cond.code yX0_passYear cX0_passYear 6 (some .int)) ∈ TB := TB_4 (i := 99) rfl rfl
set_option maxRecDepth 4000 in
theorem wd_902 : (Cond.methodLink RX0 99 yX0_ageSlot) ∈ TB := TB_4 (i := 100) rfl rfl
set_option maxRecDepth 4000 in
theorem wd_903 : (Cond.instanceMethod yX0_ageSlot) ∈ TB := TB_4 (i := 101) rfl rfl
set_option maxRecDepth 4000 in
theorem wd_904 : (Cond.selects RX0 yX0_ageSlot yX0_ageSlot) ∈ TB := TB_4 (i := 102) rfl rfl
set_option maxRecDepth 4000 in
theorem wd_905 : (Cond.code yX0_ageSlot cX0_ageSlot 6 (some .int)) ∈ TB := TB_4 (i := 103) rfl rfl
set_option maxRecDepth 4000 in
theorem wd_906 : (Cond.methodLink RL 98 yX9_claim) ∈ TB := TB_4 (i := 104) rfl rfl
set_option maxRecDepth 4000 in
theorem wd_907 : (Cond.instanceMethod yX9_claim) ∈ TB := TB_4 (i := 105) rfl rfl
set_option maxRecDepth 4000 in
theorem wd_908 : (Cond.selects RX9 yX9_claim yX9_claim) ∈ TB := TB_4 (i := 106) rfl rfl
set_option maxRecDepth 4000 in
theorem wd_909 : (Cond.code yX9_claim cX9_claim 4 (some .int)) ∈ TB := TB_4 (i := 107) rfl rfl
set_option maxRecDepth 4000 in
theorem wd_910 : (Cond.methodLink RX9 306 yX9_claimBar) ∈ TB := TB_4 (i := 108) rfl rfl
set_option maxRecDepth 4000 in
theorem wd_912 : (Cond.instanceMethod yX9_claimBar) ∈ TB := TB_4 (i := 110) rfl rfl
set_option maxRecDepth 4000 in
theorem wd_913 : (Cond.code yX9_claimBar cX9_claimBar 3 (some .int)) ∈ TB := TB_4 (i := 111) rfl rfl
set_option maxRecDepth 4000 in
theorem wd_914 : (Cond.methodLink RX9 310 yX8_firstOpen) ∈ TB := TB_4 (i := 112) rfl rfl
set_option maxRecDepth 4000 in
theorem wd_915 : (Cond.instanceMethod yX8_firstOpen) ∈ TB := TB_4 (i := 113) rfl rfl
set_option maxRecDepth 4000 in
theorem wd_916 : (Cond.selects RX8 yX8_firstOpen yX8_firstOpen) ∈ TB := TB_4 (i := 114) rfl rfl
set_option maxRecDepth 4000 in
theorem wd_917 : (Cond.code yX8_firstOpen cX8_firstOpen 4 (some .int)) ∈ TB := TB_4 (i := 115) rfl rfl
set_option maxRecDepth 4000 in
theorem wd_918 : (Cond.methodLink RX9 313 yX0_enterClaim) ∈ TB := TB_4 (i := 116) rfl rfl
set_option maxRecDepth 4000 in
theorem wd_919 : (Cond.instanceMethod yX0_enterClaim) ∈ TB := TB_4 (i := 117) rfl rfl
set_option maxRecDepth 4000 in
theorem wd_920 : (Cond.selects RX0 yX0_enterClaim yX0_enterClaim) ∈ TB := TB_4 (i := 118) rfl rfl
set_option maxRecDepth 4000 in
theorem wd_921 : (Cond.code yX0_enterClaim cX0_enterClaim 9 (some .int)) ∈ TB := TB_4 (i := 119) rfl rfl
set_option maxRecDepth 4000 in
theorem wd_922 : (Cond.methodLink RX0 114 yX0_worthOfSeat) ∈ TB := TB_4 (i := 120) rfl rfl
set_option maxRecDepth 4000 in
theorem wd_923 : (Cond.instanceMethod yX0_worthOfSeat) ∈ TB := TB_4 (i := 121) rfl rfl
set_option maxRecDepth 4000 in
theorem wd_924 : (Cond.selects RX0 yX0_worthOfSeat yX0_worthOfSeat) ∈ TB := TB_4 (i := 122) rfl rfl
set_option maxRecDepth 4000 in
theorem wd_925 : (Cond.code yX0_worthOfSeat cX0_worthOfSeat 8 (some .int)) ∈ TB := TB_4 (i := 123) rfl rfl
set_option maxRecDepth 4000 in
theorem wd_926 : (Cond.methodLink RX0 106 yX8_payable) ∈ TB := TB_4 (i := 124) rfl rfl
set_option maxRecDepth 4000 in
theorem wd_927 : (Cond.methodLink RX0 110 yX0_keptAtSlot) ∈ TB := TB_4 (i := 125) rfl rfl
set_option maxRecDepth 4000 in
theorem wd_928 : (Cond.instanceMethod yX0_keptAtSlot) ∈ TB := TB_4 (i := 126) rfl rfl
set_option maxRecDepth 4000 in
theorem wd_929 : (Cond.selects RX0 yX0_keptAtSlot yX0_keptAtSlot) ∈ TB := TB_4 (i := 127) rfl rfl
set_option maxRecDepth 4000 in
theorem wd_930 : (Cond.code yX0_keptAtSlot cX0_keptAtSlot 4 (some .int)) ∈ TB := TB_4 (i := 128) rfl rfl
set_option maxRecDepth 4000 in
theorem wd_931 : (Cond.methodLink RX0 118 yX0_keepNothing) ∈ TB := TB_4 (i := 129) rfl rfl
set_option maxRecDepth 4000 in
theorem wd_932 : (Cond.instanceMethod yX0_keepNothing) ∈ TB := TB_4 (i := 130) rfl rfl
set_option maxRecDepth 4000 in
theorem wd_933 : (Cond.selects RX0 yX0_keepNothing yX0_keepNothing) ∈ TB := TB_4 (i := 131) rfl rfl
set_option maxRecDepth 4000 in
theorem wd_934 : (Cond.code yX0_keepNothing cX0_keepNothing 3 none) ∈ TB := TB_4 (i := 132) rfl rfl
set_option maxRecDepth 4000 in
theorem wd_935 : (Cond.methodLink RL 102 yX9_part) ∈ TB := TB_4 (i := 133) rfl rfl
set_option maxRecDepth 4000 in
theorem wd_936 : (Cond.instanceMethod yX9_part) ∈ TB := TB_4 (i := 134) rfl rfl
set_option maxRecDepth 4000 in
theorem wd_937 : (Cond.selects RX9 yX9_part yX9_part) ∈ TB := TB_4 (i := 135) rfl rfl
set_option maxRecDepth 4000 in
theorem wd_938 : (Cond.code yX9_part cX9_part 3 (some .int)) ∈ TB := TB_4 (i := 136) rfl rfl
set_option maxRecDepth 4000 in
theorem wd_939 : (Cond.methodLink RX9 317 yX9_partBar) ∈ TB := TB_4 (i := 137) rfl rfl
set_option maxRecDepth 4000 in
theorem wd_941 : (Cond.instanceMethod yX9_partBar) ∈ TB := TB_4 (i := 139) rfl rfl
set_option maxRecDepth 4000 in
theorem wd_942 : (Cond.code yX9_partBar cX9_partBar 2 (some .int)) ∈ TB := TB_4 (i := 140) rfl rfl
set_option maxRecDepth 4000 in
theorem wd_943 : (Cond.methodLink RX9 427 yX0_weightIn) ∈ TB := TB_4 (i := 141) rfl rfl
set_option maxRecDepth 4000 in
theorem wd_944 : (Cond.instanceMethod yX0_weightIn) ∈ TB := TB_4 (i := 142) rfl rfl
set_option maxRecDepth 4000 in
theorem wd_945 : (Cond.selects RX0 yX0_weightIn yX0_weightIn) ∈ TB := TB_4 (i := 143) rfl rfl
set_option maxRecDepth 4000 in
theorem wd_946 : (Cond.code yX0_weightIn cX0_weightIn 5 (some .int)) ∈ TB := TB_4 (i := 144) rfl rfl
set_option maxRecDepth 4000 in
theorem wd_947 : (Cond.methodLink RX9 320 yX9_partBox) ∈ TB := TB_4 (i := 145) rfl rfl
set_option maxRecDepth 4000 in
theorem wd_949 : (Cond.instanceMethod yX9_partBox) ∈ TB := TB_4 (i := 147) rfl rfl
set_option maxRecDepth 4000 in
theorem wd_950 : (Cond.code yX9_partBox cX9_partBox 2 (some .int)) ∈ TB := TB_4 (i := 148) rfl rfl
set_option maxRecDepth 4000 in
theorem wd_951 : (Cond.methodLink RX9 395 yX1_reckon) ∈ TB := TB_4 (i := 149) rfl rfl
set_option maxRecDepth 4000 in
theorem wd_952 : (Cond.instanceMethod yX1_reckon) ∈ TB := TB_4 (i := 150) rfl rfl
set_option maxRecDepth 4000 in
theorem wd_953 : (Cond.selects RX1 yX1_reckon yX1_reckon) ∈ TB := TB_4 (i := 151) rfl rfl
set_option maxRecDepth 4000 in
theorem wd_954 : (Cond.code yX1_reckon cX1_reckon 10 none) ∈ TB := TB_4 (i := 152) rfl rfl
set_option maxRecDepth 4000 in
theorem wd_955 : (Cond.methodLink RX1 19 yJ7_fill_53178) ∈ TB := TB_4 (i := 153) rfl rfl
set_option maxRecDepth 4000 in
theorem wd_956 : (Cond.methodLink RX1 25 yX0_weightIn) ∈ TB := TB_4 (i := 154) rfl rfl
set_option maxRecDepth 4000 in
theorem wd_957 : (Cond.methodLink RX1 43 yX1_addCent) ∈ TB := TB_4 (i := 155) rfl rfl
set_option maxRecDepth 4000 in
theorem wd_958 : (Cond.instanceMethod yX1_addCent) ∈ TB := TB_4 (i := 156) rfl rfl
set_option maxRecDepth 4000 in
theorem wd_959 : (Cond.selects RX1 yX1_addCent yX1_addCent) ∈ TB := TB_4 (i := 157) rfl rfl
set_option maxRecDepth 4000 in
theorem wd_960 : (Cond.code yX1_addCent cX1_addCent 4 none) ∈ TB := TB_4 (i := 158) rfl rfl
set_option maxRecDepth 4000 in
theorem wd_961 : (Cond.constantLong RX1 47 (-1)) ∈ TB := TB_4 (i := 159) rfl rfl
set_option maxRecDepth 4000 in
theorem wd_962 : (Cond.methodLink RX9 430 yX0_enterPart) ∈ TB := TB_4 (i := 160) rfl rfl
set_option maxRecDepth 4000 in
theorem wd_963 : (Cond.instanceMethod yX0_enterPart) ∈ TB := TB_4 (i := 161) rfl rfl
set_option maxRecDepth 4000 in
theorem wd_964 : (Cond.selects RX0 yX0_enterPart yX0_enterPart) ∈ TB := TB_4 (i := 162) rfl rfl
set_option maxRecDepth 4000 in
theorem wd_965 : (Cond.code yX0_enterPart cX0_enterPart 6 (some .int)) ∈ TB := TB_4 (i := 163) rfl rfl
set_option maxRecDepth 4000 in
theorem wd_966 : (Cond.methodLink RL 111 yX9_partAll) ∈ TB := TB_4 (i := 164) rfl rfl
set_option maxRecDepth 4000 in
theorem wd_967 : (Cond.instanceMethod yX9_partAll) ∈ TB := TB_4 (i := 165) rfl rfl
set_option maxRecDepth 4000 in
theorem wd_968 : (Cond.selects RX9 yX9_partAll yX9_partAll) ∈ TB := TB_4 (i := 166) rfl rfl
set_option maxRecDepth 4000 in
theorem wd_969 : (Cond.code yX9_partAll cX9_partAll 4 (some .int)) ∈ TB := TB_4 (i := 167) rfl rfl
set_option maxRecDepth 4000 in
theorem wd_970 : (Cond.methodLink RL 106 yX9_terms) ∈ TB := TB_4 (i := 168) rfl rfl
set_option maxRecDepth 4000 in
theorem wd_971 : (Cond.instanceMethod yX9_terms) ∈ TB := TB_4 (i := 169) rfl rfl
set_option maxRecDepth 4000 in
theorem wd_972 : (Cond.selects RX9 yX9_terms yX9_terms) ∈ TB := TB_4 (i := 170) rfl rfl
set_option maxRecDepth 4000 in
theorem wd_973 : (Cond.code yX9_terms cX9_terms 4 (some .boolean)) ∈ TB := TB_4 (i := 171) rfl rfl
set_option maxRecDepth 4000 in
theorem wd_974 : (Cond.methodLink RX9 323 yX8_hasTerms) ∈ TB := TB_4 (i := 172) rfl rfl
set_option maxRecDepth 4000 in
theorem wd_975 : (Cond.instanceMethod yX8_hasTerms) ∈ TB := TB_4 (i := 173) rfl rfl
set_option maxRecDepth 4000 in
theorem wd_976 : (Cond.selects RX8 yX8_hasTerms yX8_hasTerms) ∈ TB := TB_4 (i := 174) rfl rfl
set_option maxRecDepth 4000 in
theorem wd_977 : (Cond.code yX8_hasTerms cX8_hasTerms 4 (some .boolean)) ∈ TB := TB_4 (i := 175) rfl rfl
set_option maxRecDepth 4000 in
theorem wd_978 : (Cond.methodLink RL 115 yX9_move) ∈ TB := TB_4 (i := 176) rfl rfl
set_option maxRecDepth 4000 in
theorem wd_979 : (Cond.instanceMethod yX9_move) ∈ TB := TB_4 (i := 177) rfl rfl
set_option maxRecDepth 4000 in
theorem wd_980 : (Cond.selects RX9 yX9_move yX9_move) ∈ TB := TB_4 (i := 178) rfl rfl
set_option maxRecDepth 4000 in
theorem wd_981 : (Cond.code yX9_move cX9_move 3 (some .boolean)) ∈ TB := TB_4 (i := 179) rfl rfl
set_option maxRecDepth 4000 in
theorem wd_982 : (Cond.methodLink RL 120 yX9_giveBack) ∈ TB := TB_4 (i := 180) rfl rfl
set_option maxRecDepth 4000 in
theorem wd_983 : (Cond.instanceMethod yX9_giveBack) ∈ TB := TB_4 (i := 181) rfl rfl
set_option maxRecDepth 4000 in
theorem wd_984 : (Cond.selects RX9 yX9_giveBack yX9_giveBack) ∈ TB := TB_4 (i := 182) rfl rfl
set_option maxRecDepth 4000 in
theorem wd_985 : (Cond.code yX9_giveBack cX9_giveBack 5 (some .int)) ∈ TB := TB_4 (i := 183) rfl rfl
set_option maxRecDepth 4000 in
theorem wd_986 : (Cond.methodLink RL 124 yX9_undo) ∈ TB := TB_4 (i := 184) rfl rfl
set_option maxRecDepth 4000 in
theorem wd_987 : (Cond.instanceMethod yX9_undo) ∈ TB := TB_4 (i := 185) rfl rfl
set_option maxRecDepth 4000 in
theorem wd_988 : (Cond.selects RX9 yX9_undo yX9_undo) ∈ TB := TB_4 (i := 186) rfl rfl
set_option maxRecDepth 4000 in
theorem wd_989 : (Cond.code yX9_undo cX9_undo 1 (some .int)) ∈ TB := TB_4 (i := 187) rfl rfl
set_option maxRecDepth 4000 in
theorem wd_990 : (Cond.methodLink RX9 326 yX2_recall) ∈ TB := TB_4 (i := 188) rfl rfl
set_option maxRecDepth 4000 in
theorem wd_991 : (Cond.instanceMethod yX2_recall) ∈ TB := TB_4 (i := 189) rfl rfl
set_option maxRecDepth 4000 in
theorem wd_992 : (Cond.selects RX2 yX2_recall yX2_recall) ∈ TB := TB_4 (i := 190) rfl rfl
set_option maxRecDepth 4000 in
theorem wd_993 : (Cond.code yX2_recall cX2_recall 2 (some .boolean)) ∈ TB := TB_4 (i := 191) rfl rfl
set_option maxRecDepth 4000 in
theorem wd_994 : (Cond.methodLink RL 128 yX9_paid) ∈ TB := TB_4 (i := 192) rfl rfl
set_option maxRecDepth 4000 in
theorem wd_995 : (Cond.instanceMethod yX9_paid) ∈ TB := TB_4 (i := 193) rfl rfl
set_option maxRecDepth 4000 in
theorem wd_996 : (Cond.selects RX9 yX9_paid yX9_paid) ∈ TB := TB_4 (i := 194) rfl rfl
set_option maxRecDepth 4000 in
theorem wd_997 : (Cond.code yX9_paid cX9_paid 4 (some .int)) ∈ TB := TB_4 (i := 195) rfl rfl
set_option maxRecDepth 4000 in
theorem wd_998 : (Cond.methodLink RX9 330 yX0_paidBoth) ∈ TB := TB_4 (i := 196) rfl rfl
set_option maxRecDepth 4000 in
theorem wd_999 : (Cond.methodLink RL 132 yX9_kept) ∈ TB := TB_4 (i := 197) rfl rfl
set_option maxRecDepth 4000 in
theorem wd_1000 : (Cond.instanceMethod yX9_kept) ∈ TB := TB_4 (i := 198) rfl rfl
set_option maxRecDepth 4000 in
theorem wd_1001 : (Cond.selects RX9 yX9_kept yX9_kept) ∈ TB := TB_4 (i := 199) rfl rfl
set_option maxRecDepth 4000 in
theorem wd_1002 : (Cond.code yX9_kept cX9_kept 6 (some .int)) ∈ TB := TB_4 (i := 200) rfl rfl
set_option maxRecDepth 4000 in
theorem wd_1003 : (Cond.methodLink RX9 339 yX9_slotOf) ∈ TB := TB_4 (i := 201) rfl rfl
set_option maxRecDepth 4000 in
theorem wd_1004 : (Cond.methodLink RX9 343 yX0_keptAtSlot) ∈ TB := TB_4 (i := 202) rfl rfl
set_option maxRecDepth 4000 in
theorem wd_1005 : (Cond.methodLink RL 137 yX9_lapsed) ∈ TB := TB_4 (i := 203) rfl rfl
set_option maxRecDepth 4000 in
theorem wd_1006 : (Cond.instanceMethod yX9_lapsed) ∈ TB := TB_4 (i := 204) rfl rfl
set_option maxRecDepth 4000 in
theorem wd_1007 : (Cond.selects RX9 yX9_lapsed yX9_lapsed) ∈ TB := TB_4 (i := 205) rfl rfl
set_option maxRecDepth 4000 in
theorem wd_1008 : (Cond.code yX9_lapsed cX9_lapsed 4 (some .int)) ∈ TB := TB_4 (i := 206) rfl rfl
set_option maxRecDepth 4000 in
theorem wd_1009 : (Cond.methodLink RL 141 yX9_lapses) ∈ TB := TB_4 (i := 207) rfl rfl
set_option maxRecDepth 4000 in
theorem wd_1010 : (Cond.instanceMethod yX9_lapses) ∈ TB := TB_4 (i := 208) rfl rfl
set_option maxRecDepth 4000 in
theorem wd_1011 : (Cond.selects RX9 yX9_lapses yX9_lapses) ∈ TB := TB_4 (i := 209) rfl rfl
set_option maxRecDepth 4000 in
theorem wd_1012 : (Cond.code yX9_lapses cX9_lapses 3 (some .int)) ∈ TB := TB_4 (i := 210) rfl rfl
set_option maxRecDepth 4000 in
theorem wd_1013 : (Cond.methodLink RX9 352 yX0_keptSince) ∈ TB := TB_4 (i := 211) rfl rfl
set_option maxRecDepth 4000 in
theorem wd_1014 : (Cond.instanceMethod yX0_keptSince) ∈ TB := TB_4 (i := 212) rfl rfl
set_option maxRecDepth 4000 in
theorem wd_1015 : (Cond.selects RX0 yX0_keptSince yX0_keptSince) ∈ TB := TB_4 (i := 213) rfl rfl
set_option maxRecDepth 4000 in
theorem wd_1016 : (Cond.code yX0_keptSince cX0_keptSince 6 (some .int)) ∈ TB := TB_4 (i := 214) rfl rfl
set_option maxRecDepth 4000 in
theorem wd_1017 : (Cond.methodLink RX0 153 yJ9_max_7cf53) ∈ TB := TB_4 (i := 215) rfl rfl
set_option maxRecDepth 4000 in
theorem wd_1018 : (Cond.static yJ9_max_7cf53) ∈ TB := TB_4 (i := 216) rfl rfl
set_option maxRecDepth 4000 in
theorem wd_1019 : (Cond.code yJ9_max_7cf53 cJ9_max_7cf53 2 (some .int)) ∈ TB := TB_4 (i := 217) rfl rfl
set_option maxRecDepth 4000 in
theorem wd_1020 : (Cond.methodLink RL 195 yX9_nextLapse) ∈ TB := TB_4 (i := 218) rfl rfl
set_option maxRecDepth 4000 in
theorem wd_1021 : (Cond.instanceMethod yX9_nextLapse) ∈ TB := TB_4 (i := 219) rfl rfl
set_option maxRecDepth 4000 in
theorem wd_1022 : (Cond.selects RX9 yX9_nextLapse yX9_nextLapse) ∈ TB := TB_4 (i := 220) rfl rfl
set_option maxRecDepth 4000 in
theorem wd_1023 : (Cond.code yX9_nextLapse cX9_nextLapse 3 (some .int)) ∈ TB := TB_4 (i := 221) rfl rfl
set_option maxRecDepth 4000 in
theorem wd_1024 : (Cond.methodLink RX9 355 yX0_eldestKept) ∈ TB := TB_4 (i := 222) rfl rfl
set_option maxRecDepth 4000 in
theorem wd_1025 : (Cond.instanceMethod yX0_eldestKept) ∈ TB := TB_4 (i := 223) rfl rfl
set_option maxRecDepth 4000 in
theorem wd_1026 : (Cond.selects RX0 yX0_eldestKept yX0_eldestKept) ∈ TB := TB_4 (i := 224) rfl rfl
set_option maxRecDepth 4000 in
theorem wd_1027 : (Cond.code yX0_eldestKept cX0_eldestKept 3 (some .int)) ∈ TB := TB_4 (i := 225) rfl rfl
set_option maxRecDepth 4000 in
theorem wd_1028 : (Cond.methodLink RX0 150 yX0_keptSince) ∈ TB := TB_4 (i := 226) rfl rfl
set_option maxRecDepth 4000 in
theorem wd_1029 : (Cond.methodLink RL 247 yX9_late) ∈ TB := TB_4 (i := 227) rfl rfl
set_option maxRecDepth 4000 in
theorem wd_1030 : (Cond.instanceMethod yX9_late) ∈ TB := TB_4 (i := 228) rfl rfl
set_option maxRecDepth 4000 in
theorem wd_1031 : (Cond.selects RX9 yX9_late yX9_late) ∈ TB := TB_4 (i := 229) rfl rfl
set_option maxRecDepth 4000 in
theorem wd_1032 : (Cond.code yX9_late cX9_late 5 (some .int)) ∈ TB := TB_4 (i := 230) rfl rfl
set_option maxRecDepth 4000 in
theorem wd_1033 : (Cond.methodLink RL 178 yX9_most) ∈ TB := TB_4 (i := 231) rfl rfl
set_option maxRecDepth 4000 in
theorem wd_1034 : (Cond.instanceMethod yX9_most) ∈ TB := TB_4 (i := 232) rfl rfl
set_option maxRecDepth 4000 in
theorem wd_1035 : (Cond.selects RX9 yX9_most yX9_most) ∈ TB := TB_4 (i := 233) rfl rfl
set_option maxRecDepth 4000 in
theorem wd_1036 : (Cond.code yX9_most cX9_most 5 (some .int)) ∈ TB := TB_4 (i := 234) rfl rfl
set_option maxRecDepth 4000 in
theorem wd_1037 : (Cond.methodLink RX9 358 yX9_paidSomewhere) ∈ TB := TB_4 (i := 235) rfl rfl
set_option maxRecDepth 4000 in
theorem wd_1039 : (Cond.instanceMethod yX9_paidSomewhere) ∈ TB := TB_4 (i := 237) rfl rfl
set_option maxRecDepth 4000 in
theorem wd_1040 : (Cond.code yX9_paidSomewhere cX9_paidSomewhere 3 (some .int)) ∈ TB := TB_4 (i := 238) rfl rfl
set_option maxRecDepth 4000 in
theorem wd_1041 : (Cond.methodLink RL 182 yX9_ranked) ∈ TB := TB_4 (i := 239) rfl rfl
set_option maxRecDepth 4000 in
theorem wd_1042 : (Cond.instanceMethod yX9_ranked) ∈ TB := TB_5 (i := 0) rfl rfl
set_option maxRecDepth 4000 in
theorem wd_1043 : (Cond.selects RX9 yX9_ranked yX9_ranked) ∈ TB := TB_5 (i := 1) rfl rfl
set_option maxRecDepth 4000 in
theorem wd_1044 : (Cond.code yX9_ranked cX9_ranked 3 (some .int)) ∈ TB := TB_5 (i := 2) rfl rfl
set_option maxRecDepth 4000 in
theorem wd_1045 : (Cond.methodLink RX9 361 yX9_rankOf) ∈ TB := TB_5 (i := 3) rfl rfl
set_option maxRecDepth 4000 in
theorem wd_1047 : (Cond.instanceMethod yX9_rankOf) ∈ TB := TB_5 (i := 5) rfl rfl
set_option maxRecDepth 4000 in
theorem wd_1048 : (Cond.code yX9_rankOf cX9_rankOf 6 (some .int)) ∈ TB := TB_5 (i := 6) rfl rfl
set_option maxRecDepth 4000 in
theorem wd_1049 : (Cond.methodLink RL 239 yX9_poorest) ∈ TB := TB_5 (i := 7) rfl rfl
set_option maxRecDepth 4000 in
theorem wd_1050 : (Cond.instanceMethod yX9_poorest) ∈ TB := TB_5 (i := 8) rfl rfl
set_option maxRecDepth 4000 in
theorem wd_1051 : (Cond.selects RX9 yX9_poorest yX9_poorest) ∈ TB := TB_5 (i := 9) rfl rfl
set_option maxRecDepth 4000 in
theorem wd_1052 : (Cond.code yX9_poorest cX9_poorest 6 (some .int)) ∈ TB := TB_5 (i := 10) rfl rfl
set_option maxRecDepth 4000 in
theorem wd_1053 : (Cond.methodLink RL 223 yX9_statement) ∈ TB := TB_5 (i := 11) rfl rfl
set_option maxRecDepth 4000 in
theorem wd_1054 : (Cond.instanceMethod yX9_statement) ∈ TB := TB_5 (i := 12) rfl rfl
set_option maxRecDepth 4000 in
theorem wd_1055 : (Cond.selects RX9 yX9_statement yX9_statement) ∈ TB := TB_5 (i := 13) rfl rfl
set_option maxRecDepth 4000 in
theorem wd_1056 : (Cond.code yX9_statement cX9_statement 7 (some .int)) ∈ TB := TB_5 (i := 14) rfl rfl
set_option maxRecDepth 4000 in
theorem wd_1057 : (Cond.methodLink RL 186 yX9_across) ∈ TB := TB_5 (i := 15) rfl rfl
set_option maxRecDepth 4000 in
theorem wd_1058 : (Cond.instanceMethod yX9_across) ∈ TB := TB_5 (i := 16) rfl rfl
set_option maxRecDepth 4000 in
theorem wd_1059 : (Cond.selects RX9 yX9_across yX9_across) ∈ TB := TB_5 (i := 17) rfl rfl
set_option maxRecDepth 4000 in
theorem wd_1060 : (Cond.code yX9_across cX9_across 5 (some .int)) ∈ TB := TB_5 (i := 18) rfl rfl
set_option maxRecDepth 4000 in
theorem wd_1061 : (Cond.constant RX9 364 (-1000000000)) ∈ TB := TB_5 (i := 19) rfl rfl
set_option maxRecDepth 4000 in
theorem wd_1062 : (Cond.methodLink RX9 365 yX0_paidAcross) ∈ TB := TB_5 (i := 20) rfl rfl
set_option maxRecDepth 4000 in
theorem wd_1063 : (Cond.instanceMethod yX0_paidAcross) ∈ TB := TB_5 (i := 21) rfl rfl
set_option maxRecDepth 4000 in
theorem wd_1064 : (Cond.selects RX0 yX0_paidAcross yX0_paidAcross) ∈ TB := TB_5 (i := 22) rfl rfl
set_option maxRecDepth 4000 in
theorem wd_1065 : (Cond.code yX0_paidAcross cX0_paidAcross 6 (some .int)) ∈ TB := TB_5 (i := 23) rfl rfl
set_option maxRecDepth 4000 in
theorem wd_1066 : (Cond.methodLink RL 203 yX9_net) ∈ TB := TB_5 (i := 24) rfl rfl
set_option maxRecDepth 4000 in
theorem wd_1067 : (Cond.instanceMethod yX9_net) ∈ TB := TB_5 (i := 25) rfl rfl
set_option maxRecDepth 4000 in
theorem wd_1068 : (Cond.selects RX9 yX9_net yX9_net) ∈ TB := TB_5 (i := 26) rfl rfl
set_option maxRecDepth 4000 in
theorem wd_1069 : (Cond.code yX9_net cX9_net 2 (some .int)) ∈ TB := TB_5 (i := 27) rfl rfl
set_option maxRecDepth 4000 in
theorem wd_1070 : (Cond.methodLink RX9 368 yX0_netOf) ∈ TB := TB_5 (i := 28) rfl rfl
set_option maxRecDepth 4000 in
theorem wd_1071 : (Cond.instanceMethod yX0_netOf) ∈ TB := TB_5 (i := 29) rfl rfl
set_option maxRecDepth 4000 in
theorem wd_1072 : (Cond.selects RX0 yX0_netOf yX0_netOf) ∈ TB := TB_5 (i := 30) rfl rfl
set_option maxRecDepth 4000 in
theorem wd_1073 : (Cond.code yX0_netOf cX0_netOf 5 (some .int)) ∈ TB := TB_5 (i := 31) rfl rfl
set_option maxRecDepth 4000 in
theorem wd_1074 : (Cond.methodLink RX0 143 yX0_paidAcross) ∈ TB := TB_5 (i := 32) rfl rfl
set_option maxRecDepth 4000 in
theorem wd_1075 : (Cond.methodLink RL 207 yX9_extreme) ∈ TB := TB_5 (i := 33) rfl rfl
set_option maxRecDepth 4000 in
theorem wd_1076 : (Cond.instanceMethod yX9_extreme) ∈ TB := TB_5 (i := 34) rfl rfl
set_option maxRecDepth 4000 in
theorem wd_1077 : (Cond.selects RX9 yX9_extreme yX9_extreme) ∈ TB := TB_5 (i := 35) rfl rfl
set_option maxRecDepth 4000 in
theorem wd_1078 : (Cond.code yX9_extreme cX9_extreme 5 (some .int)) ∈ TB := TB_5 (i := 36) rfl rfl
set_option maxRecDepth 4000 in
theorem wd_1079 : (Cond.methodLink RX9 371 yJ6_compare_7cf53) ∈ TB := TB_5 (i := 37) rfl rfl
set_option maxRecDepth 4000 in
theorem wd_1080 : (Cond.static yJ6_compare_7cf53) ∈ TB := TB_5 (i := 38) rfl rfl
set_option maxRecDepth 4000 in
theorem wd_1081 : (Cond.code yJ6_compare_7cf53 cJ6_compare_7cf53 2 (some .int)) ∈ TB := TB_5 (i := 39) rfl rfl
set_option maxRecDepth 4000 in
theorem wd_1082 : (Cond.methodLink RL 255 yX9_dearest) ∈ TB := TB_5 (i := 40) rfl rfl
set_option maxRecDepth 4000 in
theorem wd_1083 : (Cond.instanceMethod yX9_dearest) ∈ TB := TB_5 (i := 41) rfl rfl
set_option maxRecDepth 4000 in
theorem wd_1084 : (Cond.selects RX9 yX9_dearest yX9_dearest) ∈ TB := TB_5 (i := 42) rfl rfl
set_option maxRecDepth 4000 in
theorem wd_1085 : (Cond.code yX9_dearest cX9_dearest 4 (some .int)) ∈ TB := TB_5 (i := 43) rfl rfl
set_option maxRecDepth 4000 in
theorem wd_1086 : (Cond.methodLink RL 263 yX9_money) ∈ TB := TB_5 (i := 44) rfl rfl
set_option maxRecDepth 4000 in
theorem wd_1087 : (Cond.instanceMethod yX9_money) ∈ TB := TB_5 (i := 45) rfl rfl
set_option maxRecDepth 4000 in
theorem wd_1088 : (Cond.selects RX9 yX9_money yX9_money) ∈ TB := TB_5 (i := 46) rfl rfl
set_option maxRecDepth 4000 in
theorem wd_1089 : (Cond.code yX9_money cX9_money 4 (some .int)) ∈ TB := TB_5 (i := 47) rfl rfl
set_option maxRecDepth 4000 in
theorem wd_1090 : (Cond.methodLink RX9 374 yX9_moneyOfLand) ∈ TB := TB_5 (i := 48) rfl rfl
set_option maxRecDepth 4000 in
theorem wd_1092 : (Cond.instanceMethod yX9_moneyOfLand) ∈ TB := TB_5 (i := 50) rfl rfl
set_option maxRecDepth 4000 in
theorem wd_1093 : (Cond.code yX9_moneyOfLand cX9_moneyOfLand 3 (some .int)) ∈ TB := TB_5 (i := 51) rfl rfl
set_option maxRecDepth 4000 in
theorem wd_1094 : (Cond.methodLink RX9 132 yX0_paidIn) ∈ TB := TB_5 (i := 52) rfl rfl
set_option maxRecDepth 4000 in
theorem wd_1095 : (Cond.instanceMethod yX0_paidIn) ∈ TB := TB_5 (i := 53) rfl rfl
set_option maxRecDepth 4000 in
theorem wd_1096 : (Cond.selects RX0 yX0_paidIn yX0_paidIn) ∈ TB := TB_5 (i := 54) rfl rfl
set_option maxRecDepth 4000 in
theorem wd_1097 : (Cond.code yX0_paidIn cX0_paidIn 3 (some .int)) ∈ TB := TB_5 (i := 55) rfl rfl
set_option maxRecDepth 4000 in
theorem wd_1098 : (Cond.methodLink RX0 136 yX0_weightIn) ∈ TB := TB_5 (i := 56) rfl rfl
set_option maxRecDepth 4000 in
theorem wd_1099 : (Cond.methodLink RX0 140 yX0_partsIn) ∈ TB := TB_5 (i := 57) rfl rfl
set_option maxRecDepth 4000 in
theorem wd_1100 : (Cond.instanceMethod yX0_partsIn) ∈ TB := TB_5 (i := 58) rfl rfl
set_option maxRecDepth 4000 in
theorem wd_1101 : (Cond.selects RX0 yX0_partsIn yX0_partsIn) ∈ TB := TB_5 (i := 59) rfl rfl
set_option maxRecDepth 4000 in
theorem wd_1102 : (Cond.code yX0_partsIn cX0_partsIn 5 (some .int)) ∈ TB := TB_5 (i := 60) rfl rfl
set_option maxRecDepth 4000 in
theorem wd_1103 : (Cond.methodLink RX9 136 yX0_keptIn) ∈ TB := TB_5 (i := 61) rfl rfl
set_option maxRecDepth 4000 in
theorem wd_1104 : (Cond.instanceMethod yX0_keptIn) ∈ TB := TB_5 (i := 62) rfl rfl
set_option maxRecDepth 4000 in
theorem wd_1105 : (Cond.selects RX0 yX0_keptIn yX0_keptIn) ∈ TB := TB_5 (i := 63) rfl rfl
set_option maxRecDepth 4000 in
theorem wd_1106 : (Cond.code yX0_keptIn cX0_keptIn 2 (some .int)) ∈ TB := TB_5 (i := 64) rfl rfl
set_option maxRecDepth 4000 in
theorem wd_1107 : (Cond.methodLink RX9 434 yX0_partsIn) ∈ TB := TB_5 (i := 65) rfl rfl
set_option maxRecDepth 4000 in
theorem wd_1108 : (Cond.methodLink RX9 437 yX0_lapsedIn) ∈ TB := TB_5 (i := 66) rfl rfl
set_option maxRecDepth 4000 in
theorem wd_1109 : (Cond.instanceMethod yX0_lapsedIn) ∈ TB := TB_5 (i := 67) rfl rfl
set_option maxRecDepth 4000 in
theorem wd_1110 : (Cond.selects RX0 yX0_lapsedIn yX0_lapsedIn) ∈ TB := TB_5 (i := 68) rfl rfl
set_option maxRecDepth 4000 in
theorem wd_1111 : (Cond.code yX0_lapsedIn cX0_lapsedIn 4 (some .int)) ∈ TB := TB_5 (i := 69) rfl rfl
set_option maxRecDepth 4000 in
theorem wd_1112 : (Cond.methodLink RL 145 yX9_share) ∈ TB := TB_5 (i := 70) rfl rfl
set_option maxRecDepth 4000 in
theorem wd_1113 : (Cond.instanceMethod yX9_share) ∈ TB := TB_5 (i := 71) rfl rfl
set_option maxRecDepth 4000 in
theorem wd_1114 : (Cond.selects RX9 yX9_share yX9_share) ∈ TB := TB_5 (i := 72) rfl rfl
set_option maxRecDepth 4000 in
theorem wd_1115 : (Cond.code yX9_share cX9_share 5 (some .int)) ∈ TB := TB_5 (i := 73) rfl rfl
set_option maxRecDepth 4000 in
theorem wd_1116 : (Cond.methodLink RX9 377 yX5_headsIn) ∈ TB := TB_5 (i := 74) rfl rfl
set_option maxRecDepth 4000 in
theorem wd_1117 : (Cond.methodLink RL 251 yX9_split) ∈ TB := TB_5 (i := 75) rfl rfl
set_option maxRecDepth 4000 in
theorem wd_1118 : (Cond.instanceMethod yX9_split) ∈ TB := TB_5 (i := 76) rfl rfl
set_option maxRecDepth 4000 in
theorem wd_1119 : (Cond.selects RX9 yX9_split yX9_split) ∈ TB := TB_5 (i := 77) rfl rfl
set_option maxRecDepth 4000 in
theorem wd_1120 : (Cond.code yX9_split cX9_split 5 (some .int)) ∈ TB := TB_5 (i := 78) rfl rfl
set_option maxRecDepth 4000 in
theorem wd_1121 : (Cond.methodLink RX9 383 yX3_openMoney) ∈ TB := TB_5 (i := 79) rfl rfl
set_option maxRecDepth 4000 in
theorem wd_1122 : (Cond.instanceMethod yX3_openMoney) ∈ TB := TB_5 (i := 80) rfl rfl
set_option maxRecDepth 4000 in
theorem wd_1123 : (Cond.selects RX3 yX3_openMoney yX3_openMoney) ∈ TB := TB_5 (i := 81) rfl rfl
set_option maxRecDepth 4000 in
theorem wd_1124 : (Cond.code yX3_openMoney cX3_openMoney 4 (some .int)) ∈ TB := TB_5 (i := 82) rfl rfl
set_option maxRecDepth 4000 in
theorem wd_1125 : (Cond.methodLink RL 149 yX9_wouldPlay) ∈ TB := TB_5 (i := 83) rfl rfl
set_option maxRecDepth 4000 in
theorem wd_1126 : (Cond.instanceMethod yX9_wouldPlay) ∈ TB := TB_5 (i := 84) rfl rfl
set_option maxRecDepth 4000 in
theorem wd_1127 : (Cond.selects RX9 yX9_wouldPlay yX9_wouldPlay) ∈ TB := TB_5 (i := 85) rfl rfl
set_option maxRecDepth 4000 in
theorem wd_1128 : (Cond.code yX9_wouldPlay cX9_wouldPlay 5 (some .int)) ∈ TB := TB_5 (i := 86) rfl rfl
set_option maxRecDepth 4000 in
theorem wd_1129 : (Cond.methodLink RL 153 yX9_wouldClaim) ∈ TB := TB_5 (i := 87) rfl rfl
set_option maxRecDepth 4000 in
theorem wd_1130 : (Cond.instanceMethod yX9_wouldClaim) ∈ TB := TB_5 (i := 88) rfl rfl
set_option maxRecDepth 4000 in
theorem wd_1131 : (Cond.selects RX9 yX9_wouldClaim yX9_wouldClaim) ∈ TB := TB_5 (i := 89) rfl rfl
set_option maxRecDepth 4000 in
theorem wd_1132 : (Cond.code yX9_wouldClaim cX9_wouldClaim 4 (some .int)) ∈ TB := TB_5 (i := 90) rfl rfl
set_option maxRecDepth 4000 in
theorem wd_1133 : (Cond.methodLink RX9 392 yX9_claimWorth) ∈ TB := TB_5 (i := 91) rfl rfl
set_option maxRecDepth 4000 in
theorem wd_1135 : (Cond.instanceMethod yX9_claimWorth) ∈ TB := TB_5 (i := 93) rfl rfl
set_option maxRecDepth 4000 in
theorem wd_1136 : (Cond.code yX9_claimWorth cX9_claimWorth 3 (some .int)) ∈ TB := TB_5 (i := 94) rfl rfl
set_option maxRecDepth 4000 in
theorem wd_1137 : (Cond.methodLink RX9 424 yX0_worthOfSeat) ∈ TB := TB_5 (i := 95) rfl rfl
set_option maxRecDepth 4000 in
theorem wd_1138 : (Cond.methodLink RL 157 yX9_bestClaim) ∈ TB := TB_5 (i := 96) rfl rfl
set_option maxRecDepth 4000 in
theorem wd_1139 : (Cond.instanceMethod yX9_bestClaim) ∈ TB := TB_5 (i := 97) rfl rfl
set_option maxRecDepth 4000 in
theorem wd_1140 : (Cond.selects RX9 yX9_bestClaim yX9_bestClaim) ∈ TB := TB_5 (i := 98) rfl rfl
set_option maxRecDepth 4000 in
theorem wd_1141 : (Cond.code yX9_bestClaim cX9_bestClaim 6 (some .int)) ∈ TB := TB_5 (i := 99) rfl rfl
set_option maxRecDepth 4000 in
theorem wd_1142 : (Cond.methodLink RL 161 yX9_claimant) ∈ TB := TB_5 (i := 100) rfl rfl
set_option maxRecDepth 4000 in
theorem wd_1143 : (Cond.instanceMethod yX9_claimant) ∈ TB := TB_5 (i := 101) rfl rfl
set_option maxRecDepth 4000 in
theorem wd_1144 : (Cond.selects RX9 yX9_claimant yX9_claimant) ∈ TB := TB_5 (i := 102) rfl rfl
set_option maxRecDepth 4000 in
theorem wd_1145 : (Cond.code yX9_claimant cX9_claimant 6 (some .int)) ∈ TB := TB_5 (i := 103) rfl rfl
set_option maxRecDepth 4000 in
theorem wd_1146 : (Cond.methodLink RL 165 yX9_wouldPart) ∈ TB := TB_5 (i := 104) rfl rfl
set_option maxRecDepth 4000 in
theorem wd_1147 : (Cond.instanceMethod yX9_wouldPart) ∈ TB := TB_5 (i := 105) rfl rfl
set_option maxRecDepth 4000 in
theorem wd_1148 : (Cond.selects RX9 yX9_wouldPart yX9_wouldPart) ∈ TB := TB_5 (i := 106) rfl rfl
set_option maxRecDepth 4000 in
theorem wd_1149 : (Cond.code yX9_wouldPart cX9_wouldPart 4 (some .int)) ∈ TB := TB_5 (i := 107) rfl rfl
set_option maxRecDepth 4000 in
theorem wd_1150 : (Cond.methodLink RL 169 yX9_gain) ∈ TB := TB_5 (i := 108) rfl rfl
set_option maxRecDepth 4000 in
theorem wd_1151 : (Cond.instanceMethod yX9_gain) ∈ TB := TB_5 (i := 109) rfl rfl
set_option maxRecDepth 4000 in
theorem wd_1152 : (Cond.selects RX9 yX9_gain yX9_gain) ∈ TB := TB_5 (i := 110) rfl rfl
set_option maxRecDepth 4000 in
theorem wd_1153 : (Cond.code yX9_gain cX9_gain 8 (some .int)) ∈ TB := TB_5 (i := 111) rfl rfl
set_option maxRecDepth 4000 in
theorem wd_1154 : (Cond.methodLink RX9 402 yX3_paidToOne) ∈ TB := TB_5 (i := 112) rfl rfl
set_option maxRecDepth 4000 in
theorem wd_1155 : (Cond.instanceMethod yX3_paidToOne) ∈ TB := TB_5 (i := 113) rfl rfl
set_option maxRecDepth 4000 in
theorem wd_1156 : (Cond.selects RX3 yX3_paidToOne yX3_paidToOne) ∈ TB := TB_5 (i := 114) rfl rfl
set_option maxRecDepth 4000 in
theorem wd_1157 : (Cond.code yX3_paidToOne cX3_paidToOne 4 (some .int)) ∈ TB := TB_5 (i := 115) rfl rfl
set_option maxRecDepth 4000 in
theorem wd_1158 : (Cond.methodLink RL 199 yX9_bestLand) ∈ TB := TB_5 (i := 116) rfl rfl
set_option maxRecDepth 4000 in
theorem wd_1159 : (Cond.instanceMethod yX9_bestLand) ∈ TB := TB_5 (i := 117) rfl rfl
set_option maxRecDepth 4000 in
theorem wd_1160 : (Cond.selects RX9 yX9_bestLand yX9_bestLand) ∈ TB := TB_5 (i := 118) rfl rfl
set_option maxRecDepth 4000 in
theorem wd_1161 : (Cond.code yX9_bestLand cX9_bestLand 8 (some .int)) ∈ TB := TB_5 (i := 119) rfl rfl
set_option maxRecDepth 4000 in
theorem wd_1162 : (Cond.methodLink RL 211 yX9_round) ∈ TB := TB_5 (i := 120) rfl rfl
set_option maxRecDepth 4000 in
theorem wd_1163 : (Cond.instanceMethod yX9_round) ∈ TB := TB_5 (i := 121) rfl rfl
set_option maxRecDepth 4000 in
theorem wd_1164 : (Cond.selects RX9 yX9_round yX9_round) ∈ TB := TB_5 (i := 122) rfl rfl
set_option maxRecDepth 4000 in
theorem wd_1165 : (Cond.code yX9_round cX9_round 3 (some .int)) ∈ TB := TB_5 (i := 123) rfl rfl
set_option maxRecDepth 4000 in
theorem wd_1166 : (Cond.methodLink RX9 408 yX6_toPlayersOf) ∈ TB := TB_5 (i := 124) rfl rfl
set_option maxRecDepth 4000 in
theorem wd_1167 : (Cond.instanceMethod yX6_toPlayersOf) ∈ TB := TB_5 (i := 125) rfl rfl
set_option maxRecDepth 4000 in
theorem wd_1168 : (Cond.selects RX6 yX6_toPlayersOf yX6_toPlayersOf) ∈ TB := TB_5 (i := 126) rfl rfl
set_option maxRecDepth 4000 in
theorem wd_1169 : (Cond.code yX6_toPlayersOf cX6_toPlayersOf 7 (some .int)) ∈ TB := TB_5 (i := 127) rfl rfl
set_option maxRecDepth 4000 in
theorem wd_1170 : (Cond.methodLink RX6 27 yX3_think) ∈ TB := TB_5 (i := 128) rfl rfl
set_option maxRecDepth 4000 in
theorem wd_1171 : (Cond.methodLink RX6 31 yX3_paidToHome) ∈ TB := TB_5 (i := 129) rfl rfl
set_option maxRecDepth 4000 in
theorem wd_1172 : (Cond.instanceMethod yX3_paidToHome) ∈ TB := TB_5 (i := 130) rfl rfl
set_option maxRecDepth 4000 in
theorem wd_1173 : (Cond.selects RX3 yX3_paidToHome yX3_paidToHome) ∈ TB := TB_5 (i := 131) rfl rfl
set_option maxRecDepth 4000 in
theorem wd_1174 : (Cond.code yX3_paidToHome cX3_paidToHome 5 (some .int)) ∈ TB := TB_5 (i := 132) rfl rfl
set_option maxRecDepth 4000 in
theorem wd_1175 : (Cond.methodLink RX9 412 yX6_inLand) ∈ TB := TB_5 (i := 133) rfl rfl
set_option maxRecDepth 4000 in
theorem wd_1176 : (Cond.instanceMethod yX6_inLand) ∈ TB := TB_5 (i := 134) rfl rfl
set_option maxRecDepth 4000 in
theorem wd_1177 : (Cond.selects RX6 yX6_inLand yX6_inLand) ∈ TB := TB_5 (i := 135) rfl rfl
set_option maxRecDepth 4000 in
theorem wd_1178 : (Cond.code yX6_inLand cX6_inLand 7 (some .int)) ∈ TB := TB_5 (i := 136) rfl rfl
set_option maxRecDepth 4000 in
theorem wd_1179 : (Cond.methodLink RL 215 yX9_bestTerms) ∈ TB := TB_5 (i := 137) rfl rfl
set_option maxRecDepth 4000 in
theorem wd_1180 : (Cond.instanceMethod yX9_bestTerms) ∈ TB := TB_5 (i := 138) rfl rfl
set_option maxRecDepth 4000 in
theorem wd_1181 : (Cond.selects RX9 yX9_bestTerms yX9_bestTerms) ∈ TB := TB_5 (i := 139) rfl rfl
set_option maxRecDepth 4000 in
theorem wd_1182 : (Cond.code yX9_bestTerms cX9_bestTerms 9 (some .int)) ∈ TB := TB_5 (i := 140) rfl rfl
set_option maxRecDepth 4000 in
theorem wd_1183 : (Cond.methodLink RL 219 yX9_unknown) ∈ TB := TB_5 (i := 141) rfl rfl
set_option maxRecDepth 4000 in
theorem wd_1184 : (Cond.instanceMethod yX9_unknown) ∈ TB := TB_5 (i := 142) rfl rfl
set_option maxRecDepth 4000 in
theorem wd_1185 : (Cond.selects RX9 yX9_unknown yX9_unknown) ∈ TB := TB_5 (i := 143) rfl rfl
set_option maxRecDepth 4000 in
theorem wd_1186 : (Cond.code yX9_unknown cX9_unknown 2 (some .int)) ∈ TB := TB_5 (i := 144) rfl rfl
set_option maxRecDepth 4000 in
theorem wd_1187 : (Cond.methodLink RX9 416 yX6_ofOpenSeats) ∈ TB := TB_5 (i := 145) rfl rfl
set_option maxRecDepth 4000 in
theorem wd_1188 : (Cond.instanceMethod yX6_ofOpenSeats) ∈ TB := TB_5 (i := 146) rfl rfl
set_option maxRecDepth 4000 in
theorem wd_1189 : (Cond.selects RX6 yX6_ofOpenSeats yX6_ofOpenSeats) ∈ TB := TB_5 (i := 147) rfl rfl
set_option maxRecDepth 4000 in
theorem wd_1190 : (Cond.code yX6_ofOpenSeats cX6_ofOpenSeats 7 (some .int)) ∈ TB := TB_5 (i := 148) rfl rfl
set_option maxRecDepth 4000 in
theorem wd_1191 : (Cond.methodLink RX6 43 yX3_openMoney) ∈ TB := TB_5 (i := 149) rfl rfl
set_option maxRecDepth 4000 in
theorem wd_1192 : (Cond.methodLink RL 227 yX9_moveGain) ∈ TB := TB_5 (i := 150) rfl rfl
set_option maxRecDepth 4000 in
theorem wd_1193 : (Cond.instanceMethod yX9_moveGain) ∈ TB := TB_5 (i := 151) rfl rfl
set_option maxRecDepth 4000 in
theorem wd_1194 : (Cond.selects RX9 yX9_moveGain yX9_moveGain) ∈ TB := TB_5 (i := 152) rfl rfl
set_option maxRecDepth 4000 in
theorem wd_1195 : (Cond.code yX9_moveGain cX9_moveGain 3 (some .int)) ∈ TB := TB_5 (i := 153) rfl rfl
set_option maxRecDepth 4000 in
theorem wd_1196 : (Cond.methodLink RX9 419 yX9_roundFrom) ∈ TB := TB_5 (i := 154) rfl rfl
set_option maxRecDepth 4000 in
theorem wd_1198 : (Cond.instanceMethod yX9_roundFrom) ∈ TB := TB_5 (i := 156) rfl rfl
set_option maxRecDepth 4000 in
theorem wd_1199 : (Cond.code yX9_roundFrom cX9_roundFrom 3 (some .int)) ∈ TB := TB_5 (i := 157) rfl rfl
set_option maxRecDepth 4000 in
theorem wd_1200 : (Cond.methodLink RX9 440 yX6_toPlayer) ∈ TB := TB_5 (i := 158) rfl rfl
set_option maxRecDepth 4000 in
theorem wd_1201 : (Cond.instanceMethod yX6_toPlayer) ∈ TB := TB_5 (i := 159) rfl rfl
set_option maxRecDepth 4000 in
theorem wd_1202 : (Cond.selects RX6 yX6_toPlayer yX6_toPlayer) ∈ TB := TB_5 (i := 160) rfl rfl
set_option maxRecDepth 4000 in
theorem wd_1203 : (Cond.code yX6_toPlayer cX6_toPlayer 7 (some .int)) ∈ TB := TB_5 (i := 161) rfl rfl
set_option maxRecDepth 4000 in
theorem wd_1204 : (Cond.methodLink RX6 35 yX3_paidToOne) ∈ TB := TB_5 (i := 162) rfl rfl
set_option maxRecDepth 4000 in
theorem wd_1205 : (Cond.methodLink RL 231 yX9_bestHome) ∈ TB := TB_5 (i := 163) rfl rfl
set_option maxRecDepth 4000 in
theorem wd_1206 : (Cond.instanceMethod yX9_bestHome) ∈ TB := TB_5 (i := 164) rfl rfl
set_option maxRecDepth 4000 in
theorem wd_1207 : (Cond.selects RX9 yX9_bestHome yX9_bestHome) ∈ TB := TB_5 (i := 165) rfl rfl
set_option maxRecDepth 4000 in
theorem wd_1208 : (Cond.code yX9_bestHome cX9_bestHome 7 (some .int)) ∈ TB := TB_5 (i := 166) rfl rfl
set_option maxRecDepth 4000 in
theorem wd_1209 : (Cond.methodLink RL 41 yL_land) ∈ TB := TB_5 (i := 167) rfl rfl
set_option maxRecDepth 4000 in
theorem wd_1210 : (Cond.static yL_land) ∈ TB := TB_5 (i := 168) rfl rfl
set_option maxRecDepth 4000 in
theorem wd_1211 : (Cond.codeWith yL_land cL_land 5 (some .int) [(0, 10, 13, 13), (0, 10, 17, 15)]) ∈ TB := TB_5 (i := 169) rfl rfl
set_option maxRecDepth 4000 in
theorem wd_1212 : (Cond.classLink RL 13 "java/lang/IndexOutOfBoundsException") ∈ TB := TB_5 (i := 170) rfl rfl
set_option maxRecDepth 4000 in
theorem wd_1213 : (Cond.classLink RL 15 "java/util/NoSuchElementException") ∈ TB := TB_5 (i := 171) rfl rfl
set_option maxRecDepth 4000 in
theorem wd_1214 : (Cond.methodLink RL 7 yX9_land) ∈ TB := TB_5 (i := 172) rfl rfl
set_option maxRecDepth 4000 in
theorem wd_1215 : (Cond.instanceMethod yX9_land) ∈ TB := TB_5 (i := 173) rfl rfl
set_option maxRecDepth 4000 in
theorem wd_1216 : (Cond.selects RX9 yX9_land yX9_land) ∈ TB := TB_5 (i := 174) rfl rfl
set_option maxRecDepth 4000 in
theorem wd_1217 : (Cond.code yX9_land cX9_land 3 (some .int)) ∈ TB := TB_5 (i := 175) rfl rfl
set_option maxRecDepth 4000 in
theorem wd_1218 : (Cond.classLink RX9 106 "java/lang/IndexOutOfBoundsException") ∈ TB := TB_5 (i := 176) rfl rfl
set_option maxRecDepth 4000 in
theorem wd_1219 : (Cond.instantiable "java/lang/IndexOutOfBoundsException" 6) ∈ TB := TB_5 (i := 177) rfl rfl
set_option maxRecDepth 4000 in
theorem wd_1227 : (Cond.selects "java/lang/IndexOutOfBoundsException" ⟨"java/lang/Throwable", "fillInStackTrace", "(I)Ljava/lang/Throwable;"⟩ ⟨"java/lang/Throwable", "fillInStackTrace", "(I)Ljava/lang/Throwable;"⟩) ∈ TB := TB_5 (i := 185) rfl rfl
set_option maxRecDepth 4000 in
theorem wd_1228 : (Cond.selects "java/lang/IndexOutOfBoundsException" ⟨"java/lang/Throwable", "fillInStackTrace", "()Ljava/lang/Throwable;"⟩ ⟨"java/lang/Throwable", "fillInStackTrace", "()Ljava/lang/Throwable;"⟩) ∈ TB := TB_5 (i := 186) rfl rfl
set_option maxRecDepth 4000 in
theorem wd_1239 : (Cond.fieldLink "java/lang/Throwable" 198 "java/lang/Throwable" "backtrace" "Ljava/lang/Object;") ∈ TB := TB_5 (i := 197) rfl rfl
set_option maxRecDepth 4000 in
theorem wd_1241 : (Cond.instanceMethod ⟨"java/lang/Throwable", "<init>", "()V"⟩) ∈ TB := TB_5 (i := 199) rfl rfl
set_option maxRecDepth 4000 in
theorem wd_1242 : (Cond.code ⟨"java/lang/Throwable", "<init>", "()V"⟩ prog_25_method_1_code 1 none) ∈ TB := TB_5 (i := 200) rfl rfl
set_option maxRecDepth 4000 in
theorem wd_1243 : (Cond.methodLink "java/lang/Throwable" 1 objectInit) ∈ TB := TB_5 (i := 201) rfl rfl
set_option maxRecDepth 4000 in
theorem wd_1244 : (Cond.fieldLink "java/lang/Throwable" 13 "java/lang/Throwable" "UNASSIGNED_STACK" "[Ljava/lang/StackTraceElement;") ∈ TB := TB_5 (i := 202) rfl rfl
set_option maxRecDepth 4000 in
theorem wd_1246 : (Cond.fieldLink "java/lang/Throwable" 20 "java/lang/Throwable" "SUPPRESSED_SENTINEL" "Ljava/util/List;") ∈ TB := TB_5 (i := 204) rfl rfl
set_option maxRecDepth 4000 in
theorem wd_1248 : (Cond.methodLink "java/lang/Throwable" 27 ⟨"java/lang/Throwable", "fillInStackTrace", "()Ljava/lang/Throwable;"⟩) ∈ TB := TB_5 (i := 206) rfl rfl
set_option maxRecDepth 4000 in
theorem wd_1249 : (Cond.instanceMethod ⟨"java/lang/Throwable", "fillInStackTrace", "()Ljava/lang/Throwable;"⟩) ∈ TB := TB_5 (i := 207) rfl rfl
set_option maxRecDepth 4000 in
theorem wd_1251 : (Cond.selects "java/util/NoSuchElementException" ⟨"java/lang/Throwable", "fillInStackTrace", "()Ljava/lang/Throwable;"⟩ ⟨"java/lang/Throwable", "fillInStackTrace", "()Ljava/lang/Throwable;"⟩) ∈ TB := TB_5 (i := 209) rfl rfl
set_option maxRecDepth 4000 in
theorem wd_1253 : (Cond.methodLink "java/lang/Throwable" 202 ⟨"java/lang/Throwable", "fillInStackTrace", "(I)Ljava/lang/Throwable;"⟩) ∈ TB := TB_5 (i := 211) rfl rfl
set_option maxRecDepth 4000 in
theorem wd_1255 : (Cond.instanceMethod ⟨"java/lang/Throwable", "fillInStackTrace", "(I)Ljava/lang/Throwable;"⟩) ∈ TB := TB_5 (i := 213) rfl rfl
set_option maxRecDepth 4000 in
theorem wd_1256 : (Cond.instantiable "java/lang/Throwable" 6) ∈ TB := TB_5 (i := 214) rfl rfl
set_option maxRecDepth 4000 in
theorem wd_1257 : (Cond.native ⟨"java/lang/Throwable", "fillInStackTrace", "(I)Ljava/lang/Throwable;"⟩) ∈ TB := TB_5 (i := 215) rfl rfl
set_option maxRecDepth 4000 in
theorem wd_1259 : (Cond.methodLink RX9 110 ⟨"java/lang/IndexOutOfBoundsException", "<init>", "(Ljava/lang/String;)V"⟩) ∈ TB := TB_5 (i := 217) rfl rfl
set_option maxRecDepth 4000 in
theorem wd_1260 : (Cond.instanceMethod ⟨"java/lang/IndexOutOfBoundsException", "<init>", "(Ljava/lang/String;)V"⟩) ∈ TB := TB_5 (i := 218) rfl rfl
set_option maxRecDepth 4000 in
theorem wd_1261 : (Cond.code ⟨"java/lang/IndexOutOfBoundsException", "<init>", "(Ljava/lang/String;)V"⟩ prog_17_method_2_code 2 none) ∈ TB := TB_5 (i := 219) rfl rfl
set_option maxRecDepth 4000 in
theorem wd_1262 : (Cond.methodLink "java/lang/IndexOutOfBoundsException" 7 ⟨"java/lang/RuntimeException", "<init>", "(Ljava/lang/String;)V"⟩) ∈ TB := TB_5 (i := 220) rfl rfl
set_option maxRecDepth 4000 in
theorem wd_1263 : (Cond.instanceMethod ⟨"java/lang/RuntimeException", "<init>", "(Ljava/lang/String;)V"⟩) ∈ TB := TB_5 (i := 221) rfl rfl
set_option maxRecDepth 4000 in
theorem wd_1264 : (Cond.code ⟨"java/lang/RuntimeException", "<init>", "(Ljava/lang/String;)V"⟩ prog_20_method_2_code 2 none) ∈ TB := TB_5 (i := 222) rfl rfl
set_option maxRecDepth 4000 in
theorem wd_1265 : (Cond.methodLink "java/lang/RuntimeException" 7 ⟨"java/lang/Exception", "<init>", "(Ljava/lang/String;)V"⟩) ∈ TB := TB_5 (i := 223) rfl rfl
set_option maxRecDepth 4000 in
theorem wd_1266 : (Cond.instanceMethod ⟨"java/lang/Exception", "<init>", "(Ljava/lang/String;)V"⟩) ∈ TB := TB_5 (i := 224) rfl rfl
set_option maxRecDepth 4000 in
theorem wd_1267 : (Cond.code ⟨"java/lang/Exception", "<init>", "(Ljava/lang/String;)V"⟩ prog_16_method_2_code 2 none) ∈ TB := TB_5 (i := 225) rfl rfl
set_option maxRecDepth 4000 in
theorem wd_1268 : (Cond.methodLink "java/lang/Exception" 7 ⟨"java/lang/Throwable", "<init>", "(Ljava/lang/String;)V"⟩) ∈ TB := TB_5 (i := 226) rfl rfl
set_option maxRecDepth 4000 in
theorem wd_1269 : (Cond.instanceMethod ⟨"java/lang/Throwable", "<init>", "(Ljava/lang/String;)V"⟩) ∈ TB := TB_5 (i := 227) rfl rfl
set_option maxRecDepth 4000 in
theorem wd_1270 : (Cond.code ⟨"java/lang/Throwable", "<init>", "(Ljava/lang/String;)V"⟩ prog_25_method_2_code 2 none) ∈ TB := TB_5 (i := 228) rfl rfl
set_option maxRecDepth 4000 in
theorem wd_1272 : (Cond.fieldLink "java/lang/Throwable" 31 "java/lang/Throwable" "detailMessage" "Ljava/lang/String;") ∈ TB := TB_5 (i := 230) rfl rfl
set_option maxRecDepth 4000 in
theorem wd_1273 : (Cond.fieldLink "java/lang/Throwable" 7 "java/lang/Throwable" "cause" "Ljava/lang/Throwable;") ∈ TB := TB_5 (i := 231) rfl rfl
set_option maxRecDepth 4000 in
theorem wd_1274 : (Cond.fieldLink "java/lang/Throwable" 17 "java/lang/Throwable" "stackTrace" "[Ljava/lang/StackTraceElement;") ∈ TB := TB_5 (i := 232) rfl rfl
set_option maxRecDepth 4000 in
theorem wd_1275 : (Cond.fieldLink "java/lang/Throwable" 24 "java/lang/Throwable" "suppressedExceptions" "Ljava/util/List;") ∈ TB := TB_5 (i := 233) rfl rfl
set_option maxRecDepth 4000 in
theorem wd_1284 : (Cond.methodLink RX9 140 yX8_playersOf) ∈ TB := TB_6 (i := 2) rfl rfl
set_option maxRecDepth 4000 in
theorem wd_1285 : (Cond.instanceMethod yX8_playersOf) ∈ TB := TB_6 (i := 3) rfl rfl
set_option maxRecDepth 4000 in
theorem wd_1286 : (Cond.selects RX8 yX8_playersOf yX8_playersOf) ∈ TB := TB_6 (i := 4) rfl rfl
set_option maxRecDepth 4000 in
theorem wd_1287 : (Cond.code yX8_playersOf cX8_playersOf 5 (some .int)) ∈ TB := TB_6 (i := 5) rfl rfl
set_option maxRecDepth 4000 in
theorem wd_1288 : (Cond.classLink RX9 143 "java/util/NoSuchElementException") ∈ TB := TB_6 (i := 6) rfl rfl
set_option maxRecDepth 4000 in
theorem wd_1289 : (Cond.instantiable "java/util/NoSuchElementException" 6) ∈ TB := TB_6 (i := 7) rfl rfl
set_option maxRecDepth 4000 in
theorem wd_1291 : (Cond.selects "java/util/NoSuchElementException" ⟨"java/lang/Throwable", "fillInStackTrace", "(I)Ljava/lang/Throwable;"⟩ ⟨"java/lang/Throwable", "fillInStackTrace", "(I)Ljava/lang/Throwable;"⟩) ∈ TB := TB_6 (i := 9) rfl rfl
set_option maxRecDepth 4000 in
theorem wd_1298 : (Cond.methodLink RX9 147 ⟨"java/util/NoSuchElementException", "<init>", "(Ljava/lang/String;)V"⟩) ∈ TB := TB_6 (i := 16) rfl rfl
set_option maxRecDepth 4000 in
theorem wd_1299 : (Cond.instanceMethod ⟨"java/util/NoSuchElementException", "<init>", "(Ljava/lang/String;)V"⟩) ∈ TB := TB_6 (i := 17) rfl rfl
set_option maxRecDepth 4000 in
theorem wd_1300 : (Cond.code ⟨"java/util/NoSuchElementException", "<init>", "(Ljava/lang/String;)V"⟩ prog_29_method_4_code 2 none) ∈ TB := TB_6 (i := 18) rfl rfl
set_option maxRecDepth 4000 in
theorem wd_1301 : (Cond.methodLink "java/util/NoSuchElementException" 13 ⟨"java/lang/RuntimeException", "<init>", "(Ljava/lang/String;)V"⟩) ∈ TB := TB_6 (i := 19) rfl rfl
set_option maxRecDepth 4000 in
theorem wd_1304 : (Cond.methodLink RL 51 yL_player) ∈ TB := TB_6 (i := 22) rfl rfl
set_option maxRecDepth 4000 in
theorem wd_1305 : (Cond.static yL_player) ∈ TB := TB_6 (i := 23) rfl rfl
set_option maxRecDepth 4000 in
theorem wd_1306 : (Cond.codeWith yL_player cL_player 5 (some .int) [(0, 10, 13, 13), (0, 10, 17, 15)]) ∈ TB := TB_6 (i := 24) rfl rfl
set_option maxRecDepth 4000 in
theorem wd_1307 : (Cond.methodLink RL 17 yX9_player) ∈ TB := TB_6 (i := 25) rfl rfl
set_option maxRecDepth 4000 in
theorem wd_1308 : (Cond.instanceMethod yX9_player) ∈ TB := TB_6 (i := 26) rfl rfl
set_option maxRecDepth 4000 in
theorem wd_1309 : (Cond.selects RX9 yX9_player yX9_player) ∈ TB := TB_6 (i := 27) rfl rfl
set_option maxRecDepth 4000 in
theorem wd_1310 : (Cond.code yX9_player cX9_player 3 (some .int)) ∈ TB := TB_6 (i := 28) rfl rfl
set_option maxRecDepth 4000 in
theorem wd_1312 : (Cond.methodLink RX9 159 yX0_partsTo) ∈ TB := TB_6 (i := 30) rfl rfl
set_option maxRecDepth 4000 in
theorem wd_1313 : (Cond.instanceMethod yX0_partsTo) ∈ TB := TB_6 (i := 31) rfl rfl
set_option maxRecDepth 4000 in
theorem wd_1314 : (Cond.selects RX0 yX0_partsTo yX0_partsTo) ∈ TB := TB_6 (i := 32) rfl rfl
set_option maxRecDepth 4000 in
theorem wd_1315 : (Cond.code yX0_partsTo cX0_partsTo 5 (some .int)) ∈ TB := TB_6 (i := 33) rfl rfl
set_option maxRecDepth 4000 in
theorem wd_1316 : (Cond.methodLink RX9 165 yX8_leadsOf) ∈ TB := TB_6 (i := 34) rfl rfl
set_option maxRecDepth 4000 in
theorem wd_1317 : (Cond.instanceMethod yX8_leadsOf) ∈ TB := TB_6 (i := 35) rfl rfl
set_option maxRecDepth 4000 in
theorem wd_1318 : (Cond.selects RX8 yX8_leadsOf yX8_leadsOf) ∈ TB := TB_6 (i := 36) rfl rfl
set_option maxRecDepth 4000 in
theorem wd_1319 : (Cond.code yX8_leadsOf cX8_leadsOf 5 (some .int)) ∈ TB := TB_6 (i := 37) rfl rfl
set_option maxRecDepth 4000 in
theorem wd_1321 : (Cond.methodLink RL 54 yL_session) ∈ TB := TB_6 (i := 39) rfl rfl
set_option maxRecDepth 4000 in
theorem wd_1322 : (Cond.static yL_session) ∈ TB := TB_6 (i := 40) rfl rfl
set_option maxRecDepth 4000 in
theorem wd_1323 : (Cond.codeWith yL_session cL_session 5 (some .int) [(0, 10, 13, 13), (0, 10, 17, 15)]) ∈ TB := TB_6 (i := 41) rfl rfl
set_option maxRecDepth 4000 in
theorem wd_1324 : (Cond.methodLink RL 20 yX9_session) ∈ TB := TB_6 (i := 42) rfl rfl
set_option maxRecDepth 4000 in
theorem wd_1325 : (Cond.instanceMethod yX9_session) ∈ TB := TB_6 (i := 43) rfl rfl
set_option maxRecDepth 4000 in
theorem wd_1326 : (Cond.selects RX9 yX9_session yX9_session) ∈ TB := TB_6 (i := 44) rfl rfl
set_option maxRecDepth 4000 in
theorem wd_1327 : (Cond.code yX9_session cX9_session 3 (some .int)) ∈ TB := TB_6 (i := 45) rfl rfl
set_option maxRecDepth 4000 in
theorem wd_1329 : (Cond.methodLink RX9 179 yX5_leadsIn) ∈ TB := TB_6 (i := 47) rfl rfl
set_option maxRecDepth 4000 in
theorem wd_1330 : (Cond.methodLink RX9 191 yJ6_bitCount_0f7a4) ∈ TB := TB_6 (i := 48) rfl rfl
set_option maxRecDepth 4000 in
theorem wd_1331 : (Cond.methodLink RX9 202 yX0_keptOfSession) ∈ TB := TB_6 (i := 49) rfl rfl
set_option maxRecDepth 4000 in
theorem wd_1332 : (Cond.instanceMethod yX0_keptOfSession) ∈ TB := TB_6 (i := 50) rfl rfl
set_option maxRecDepth 4000 in
theorem wd_1333 : (Cond.selects RX0 yX0_keptOfSession yX0_keptOfSession) ∈ TB := TB_6 (i := 51) rfl rfl
set_option maxRecDepth 4000 in
theorem wd_1334 : (Cond.code yX0_keptOfSession cX0_keptOfSession 6 (some .int)) ∈ TB := TB_6 (i := 52) rfl rfl
set_option maxRecDepth 4000 in
theorem wd_1336 : (Cond.classLink RL 24 RX10) ∈ TB := TB_6 (i := 54) rfl rfl
set_option maxRecDepth 4000 in
theorem wd_1337 : (Cond.instantiable RX10 50) ∈ TB := TB_6 (i := 55) rfl rfl
set_option maxRecDepth 4000 in
theorem wd_1338 : (Cond.methodLink RL 26 yX10_init) ∈ TB := TB_6 (i := 56) rfl rfl
set_option maxRecDepth 4000 in
theorem wd_1339 : (Cond.instanceMethod yX10_init) ∈ TB := TB_6 (i := 57) rfl rfl
set_option maxRecDepth 4000 in
theorem wd_1340 : (Cond.code yX10_init cX10_init 1 none) ∈ TB := TB_6 (i := 58) rfl rfl
set_option maxRecDepth 4000 in
theorem wd_1341 : (Cond.methodLink RX10 1 objectInit) ∈ TB := TB_6 (i := 59) rfl rfl
set_option maxRecDepth 4000 in
theorem wd_1342 : (Cond.methodLink RX10 83 yX10_opens) ∈ TB := TB_6 (i := 60) rfl rfl
set_option maxRecDepth 4000 in
theorem wd_1344 : (Cond.instanceMethod yX10_opens) ∈ TB := TB_6 (i := 62) rfl rfl
set_option maxRecDepth 4000 in
theorem wd_1345 : (Cond.code yX10_opens cX10_opens 2 none) ∈ TB := TB_6 (i := 63) rfl rfl
set_option maxRecDepth 4000 in
theorem wd_1346 : (Cond.fieldLink RX10 86 "RightsPoolModel" "thrown" "I") ∈ TB := TB_6 (i := 64) rfl rfl
set_option maxRecDepth 4000 in
theorem wd_1347 : (Cond.fieldLink RX10 7 "RightsPoolModel" "tape" "[I") ∈ TB := TB_6 (i := 65) rfl rfl
set_option maxRecDepth 4000 in
theorem wd_1348 : (Cond.fieldLink RX10 89 "RightsPoolModel" "taped" "I") ∈ TB := TB_6 (i := 66) rfl rfl
set_option maxRecDepth 4000 in
theorem wd_1349 : (Cond.fieldLink RX10 13 "RightsPoolModel" "rate" "[I") ∈ TB := TB_6 (i := 67) rfl rfl
set_option maxRecDepth 4000 in
theorem wd_1350 : (Cond.fieldLink RX10 16 "RightsPoolModel" "ofOne" "[I") ∈ TB := TB_6 (i := 68) rfl rfl
set_option maxRecDepth 4000 in
theorem wd_1351 : (Cond.fieldLink RX10 19 "RightsPoolModel" "ofRole" "[I") ∈ TB := TB_6 (i := 69) rfl rfl
set_option maxRecDepth 4000 in
theorem wd_1352 : (Cond.fieldLink RX10 22 "RightsPoolModel" "ofMany" "[I") ∈ TB := TB_6 (i := 70) rfl rfl
set_option maxRecDepth 4000 in
theorem wd_1353 : (Cond.fieldLink RX10 25 "RightsPoolModel" "seats" "[I") ∈ TB := TB_6 (i := 71) rfl rfl
set_option maxRecDepth 4000 in
theorem wd_1354 : (Cond.fieldLink RX10 77 "RightsPoolModel" "lead" "I") ∈ TB := TB_6 (i := 72) rfl rfl
set_option maxRecDepth 4000 in
theorem wd_1355 : (Cond.fieldLink RX10 80 "RightsPoolModel" "keep" "I") ∈ TB := TB_6 (i := 73) rfl rfl
set_option maxRecDepth 4000 in
theorem wd_1356 : (Cond.fieldLink RX10 229 "RightsPoolModel" "lands" "I") ∈ TB := TB_6 (i := 74) rfl rfl
set_option maxRecDepth 4000 in
theorem wd_1357 : (Cond.fieldLink RX10 232 "RightsPoolModel" "players" "I") ∈ TB := TB_6 (i := 75) rfl rfl
set_option maxRecDepth 4000 in
theorem wd_1358 : (Cond.fieldLink RX10 235 "RightsPoolModel" "sessions" "I") ∈ TB := TB_6 (i := 76) rfl rfl
set_option maxRecDepth 4000 in
theorem wd_1359 : (Cond.fieldLink RX10 226 "RightsPoolModel" "lines" "I") ∈ TB := TB_6 (i := 77) rfl rfl
set_option maxRecDepth 4000 in
theorem wd_1360 : (Cond.fieldLink RX10 28 "RightsPoolModel" "now" "[I") ∈ TB := TB_6 (i := 78) rfl rfl
set_option maxRecDepth 4000 in
theorem wd_1361 : (Cond.fieldLink RX10 31 "RightsPoolModel" "past" "[I") ∈ TB := TB_6 (i := 79) rfl rfl
set_option maxRecDepth 4000 in
theorem wd_1362 : (Cond.fieldLink RX10 238 "RightsPoolModel" "undone" "I") ∈ TB := TB_6 (i := 80) rfl rfl
set_option maxRecDepth 4000 in
theorem wd_1363 : (Cond.fieldLink RX10 95 "RightsPoolModel" "size" "I") ∈ TB := TB_6 (i := 81) rfl rfl
set_option maxRecDepth 4000 in
theorem wd_1364 : (Cond.fieldLink RX10 92 "RightsPoolModel" "at" "I") ∈ TB := TB_6 (i := 82) rfl rfl
set_option maxRecDepth 4000 in
theorem wd_1365 : (Cond.fieldLink RX10 102 "RightsPoolModel" "place" "I") ∈ TB := TB_6 (i := 83) rfl rfl
set_option maxRecDepth 4000 in
theorem wd_1366 : (Cond.fieldLink RX10 105 "RightsPoolModel" "sort" "I") ∈ TB := TB_6 (i := 84) rfl rfl
set_option maxRecDepth 4000 in
theorem wd_1367 : (Cond.fieldLink RX10 118 "RightsPoolModel" "value" "I") ∈ TB := TB_6 (i := 85) rfl rfl
set_option maxRecDepth 4000 in
theorem wd_1368 : (Cond.fieldLink RX10 112 "RightsPoolModel" "word" "I") ∈ TB := TB_6 (i := 86) rfl rfl
set_option maxRecDepth 4000 in
theorem wd_1369 : (Cond.fieldLink RX10 136 "RightsPoolModel" "fault" "I") ∈ TB := TB_6 (i := 87) rfl rfl
set_option maxRecDepth 4000 in
theorem wd_1370 : (Cond.fieldLink RX10 139 "RightsPoolModel" "faultPlace" "I") ∈ TB := TB_6 (i := 88) rfl rfl
set_option maxRecDepth 4000 in
theorem wd_1371 : (Cond.fieldLink RX10 220 "RightsPoolModel" "lastFault" "I") ∈ TB := TB_6 (i := 89) rfl rfl
set_option maxRecDepth 4000 in
theorem wd_1372 : (Cond.fieldLink RX10 34 "RightsPoolModel" "lastPlace" "I") ∈ TB := TB_6 (i := 90) rfl rfl
set_option maxRecDepth 4000 in
theorem wd_1373 : (Cond.fieldLink RX10 156 "RightsPoolModel" "newLands" "I") ∈ TB := TB_6 (i := 91) rfl rfl
set_option maxRecDepth 4000 in
theorem wd_1374 : (Cond.fieldLink RX10 163 "RightsPoolModel" "newPlayers" "I") ∈ TB := TB_6 (i := 92) rfl rfl
set_option maxRecDepth 4000 in
theorem wd_1375 : (Cond.fieldLink RX10 166 "RightsPoolModel" "newSessions" "I") ∈ TB := TB_6 (i := 93) rfl rfl
set_option maxRecDepth 4000 in
theorem wd_1376 : (Cond.fieldLink RX10 214 "RightsPoolModel" "newLines" "I") ∈ TB := TB_6 (i := 94) rfl rfl
set_option maxRecDepth 4000 in
theorem wd_1377 : (Cond.fieldLink RX10 190 "RightsPoolModel" "newLead" "I") ∈ TB := TB_6 (i := 95) rfl rfl
set_option maxRecDepth 4000 in
theorem wd_1378 : (Cond.fieldLink RX10 196 "RightsPoolModel" "newKeep" "I") ∈ TB := TB_6 (i := 96) rfl rfl
set_option maxRecDepth 4000 in
theorem wd_1379 : (Cond.fieldLink RX10 186 "RightsPoolModel" "hasLead" "Z") ∈ TB := TB_6 (i := 97) rfl rfl
set_option maxRecDepth 4000 in
theorem wd_1380 : (Cond.fieldLink RX10 193 "RightsPoolModel" "hasKeep" "Z") ∈ TB := TB_6 (i := 98) rfl rfl
set_option maxRecDepth 4000 in
theorem wd_1381 : (Cond.fieldLink RX10 38 "RightsPoolModel" "landName" "[I") ∈ TB := TB_6 (i := 99) rfl rfl
set_option maxRecDepth 4000 in
theorem wd_1382 : (Cond.fieldLink RX10 41 "RightsPoolModel" "playerName" "[I") ∈ TB := TB_6 (i := 100) rfl rfl
set_option maxRecDepth 4000 in
theorem wd_1383 : (Cond.fieldLink RX10 44 "RightsPoolModel" "sessionName" "[I") ∈ TB := TB_6 (i := 101) rfl rfl
set_option maxRecDepth 4000 in
theorem wd_1384 : (Cond.fieldLink RX10 47 "RightsPoolModel" "newTerm" "[I") ∈ TB := TB_6 (i := 102) rfl rfl
set_option maxRecDepth 4000 in
theorem wd_1385 : (Cond.fieldLink RX10 50 "RightsPoolModel" "newRoles" "[I") ∈ TB := TB_6 (i := 103) rfl rfl
set_option maxRecDepth 4000 in
theorem wd_1386 : (Cond.fieldLink RX10 53 "RightsPoolModel" "newRate" "[I") ∈ TB := TB_6 (i := 104) rfl rfl
set_option maxRecDepth 4000 in
theorem wd_1387 : (Cond.fieldLink RX10 56 "RightsPoolModel" "newOf" "[I") ∈ TB := TB_6 (i := 105) rfl rfl
set_option maxRecDepth 4000 in
theorem wd_1388 : (Cond.fieldLink RX10 59 "RightsPoolModel" "newOne" "[I") ∈ TB := TB_6 (i := 106) rfl rfl
set_option maxRecDepth 4000 in
theorem wd_1389 : (Cond.fieldLink RX10 62 "RightsPoolModel" "newRole" "[I") ∈ TB := TB_6 (i := 107) rfl rfl
set_option maxRecDepth 4000 in
theorem wd_1390 : (Cond.fieldLink RX10 65 "RightsPoolModel" "newMany" "[I") ∈ TB := TB_6 (i := 108) rfl rfl
set_option maxRecDepth 4000 in
theorem wd_1391 : (Cond.fieldLink RX10 68 "RightsPoolModel" "newSeats" "[I") ∈ TB := TB_6 (i := 109) rfl rfl
set_option maxRecDepth 4000 in
theorem wd_1392 : (Cond.fieldLink RX10 71 "RightsPoolModel" "share" "[I") ∈ TB := TB_6 (i := 110) rfl rfl
set_option maxRecDepth 4000 in
theorem wd_1393 : (Cond.fieldLink RX10 74 "RightsPoolModel" "part" "[I") ∈ TB := TB_6 (i := 111) rfl rfl
set_option maxRecDepth 4000 in
theorem wd_1394 : (Cond.fieldLink RX10 384 "RightsPoolModel" "ownTerm" "I") ∈ TB := TB_6 (i := 112) rfl rfl
set_option maxRecDepth 4000 in
theorem wd_1395 : (Cond.fieldLink RX10 387 "RightsPoolModel" "ownRoles" "I") ∈ TB := TB_6 (i := 113) rfl rfl
set_option maxRecDepth 4000 in
theorem wd_1497 : (Cond.methodLink RL 47 yX10_thrown) ∈ TB := TB_6 (i := 215) rfl rfl
set_option maxRecDepth 4000 in
theorem wd_1498 : (Cond.instanceMethod yX10_thrown) ∈ TB := TB_6 (i := 216) rfl rfl
set_option maxRecDepth 4000 in
theorem wd_1499 : (Cond.selects RX10 yX10_thrown yX10_thrown) ∈ TB := TB_6 (i := 217) rfl rfl
set_option maxRecDepth 4000 in
theorem wd_1500 : (Cond.code yX10_thrown cX10_thrown 1 (some .int)) ∈ TB := TB_6 (i := 218) rfl rfl
set_option maxRecDepth 4000 in
theorem wd_1501 : (Cond.methodLink RL 31 yX10_feed) ∈ TB := TB_6 (i := 219) rfl rfl
set_option maxRecDepth 4000 in
theorem wd_1502 : (Cond.instanceMethod yX10_feed) ∈ TB := TB_6 (i := 220) rfl rfl
set_option maxRecDepth 4000 in
theorem wd_1503 : (Cond.selects RX10 yX10_feed yX10_feed) ∈ TB := TB_6 (i := 221) rfl rfl
set_option maxRecDepth 4000 in
theorem wd_1504 : (Cond.code yX10_feed cX10_feed 8 (some .int)) ∈ TB := TB_6 (i := 222) rfl rfl
set_option maxRecDepth 4000 in
theorem wd_1505 : (Cond.methodLink RL 36 yX10_text) ∈ TB := TB_6 (i := 223) rfl rfl
set_option maxRecDepth 4000 in
theorem wd_1506 : (Cond.instanceMethod yX10_text) ∈ TB := TB_6 (i := 224) rfl rfl
set_option maxRecDepth 4000 in
theorem wd_1507 : (Cond.selects RX10 yX10_text yX10_text) ∈ TB := TB_6 (i := 225) rfl rfl
set_option maxRecDepth 4000 in
theorem wd_1508 : (Cond.code yX10_text cX10_text 2 (some .int)) ∈ TB := TB_6 (i := 226) rfl rfl
set_option maxRecDepth 4000 in
theorem wd_1509 : (Cond.methodLink RX10 142 yX10_token) ∈ TB := TB_6 (i := 227) rfl rfl
set_option maxRecDepth 4000 in
theorem wd_1511 : (Cond.instanceMethod yX10_token) ∈ TB := TB_6 (i := 229) rfl rfl
set_option maxRecDepth 4000 in
theorem wd_1512 : (Cond.code yX10_token cX10_token 2 none) ∈ TB := TB_6 (i := 230) rfl rfl
set_option maxRecDepth 4000 in
theorem wd_1513 : (Cond.methodLink RX10 98 yX10_here) ∈ TB := TB_6 (i := 231) rfl rfl
set_option maxRecDepth 4000 in
theorem wd_1515 : (Cond.instanceMethod yX10_here) ∈ TB := TB_6 (i := 233) rfl rfl
set_option maxRecDepth 4000 in
theorem wd_1516 : (Cond.code yX10_here cX10_here 1 (some .int)) ∈ TB := TB_6 (i := 234) rfl rfl
set_option maxRecDepth 4000 in
theorem wd_1517 : (Cond.methodLink RX10 108 yX10_isSmall) ∈ TB := TB_6 (i := 235) rfl rfl
set_option maxRecDepth 4000 in
theorem wd_1518 : (Cond.static yX10_isSmall) ∈ TB := TB_6 (i := 236) rfl rfl
set_option maxRecDepth 4000 in
theorem wd_1519 : (Cond.code yX10_isSmall cX10_isSmall 1 (some .boolean)) ∈ TB := TB_6 (i := 237) rfl rfl
set_option maxRecDepth 4000 in
theorem wd_1520 : (Cond.methodLink RX10 115 yX10_wordHere) ∈ TB := TB_6 (i := 238) rfl rfl
set_option maxRecDepth 4000 in
theorem wd_1522 : (Cond.instanceMethod yX10_wordHere) ∈ TB := TB_7 (i := 0) rfl rfl
set_option maxRecDepth 4000 in
theorem wd_1523 : (Cond.code yX10_wordHere cX10_wordHere 4 (some .int)) ∈ TB := TB_7 (i := 1) rfl rfl
set_option maxRecDepth 4000 in
theorem wd_1525 : (Cond.methodLink RX10 127 yJ0_length_8abf5) ∈ TB := TB_7 (i := 3) rfl rfl
set_option maxRecDepth 4000 in
theorem wd_1526 : (Cond.methodLink RX10 132 yJ0_charAt_5068e) ∈ TB := TB_7 (i := 4) rfl rfl
set_option maxRecDepth 4000 in
theorem wd_1527 : (Cond.methodLink RX10 121 yX10_isDigit) ∈ TB := TB_7 (i := 5) rfl rfl
set_option maxRecDepth 4000 in
theorem wd_1528 : (Cond.static yX10_isDigit) ∈ TB := TB_7 (i := 6) rfl rfl
set_option maxRecDepth 4000 in
theorem wd_1529 : (Cond.code yX10_isDigit cX10_isDigit 1 (some .boolean)) ∈ TB := TB_7 (i := 7) rfl rfl
set_option maxRecDepth 4000 in
theorem wd_1530 : (Cond.constant RX10 124 (99999)) ∈ TB := TB_7 (i := 8) rfl rfl
set_option maxRecDepth 4000 in
theorem wd_1531 : (Cond.methodLink RX10 217 yX10_readLine) ∈ TB := TB_7 (i := 9) rfl rfl
set_option maxRecDepth 4000 in
theorem wd_1533 : (Cond.instanceMethod yX10_readLine) ∈ TB := TB_7 (i := 11) rfl rfl
set_option maxRecDepth 4000 in
theorem wd_1534 : (Cond.code yX10_readLine cX10_readLine 2 none) ∈ TB := TB_7 (i := 12) rfl rfl
set_option maxRecDepth 4000 in
theorem wd_1535 : (Cond.methodLink RX10 199 yX10_readLand) ∈ TB := TB_7 (i := 13) rfl rfl
set_option maxRecDepth 4000 in
theorem wd_1537 : (Cond.instanceMethod yX10_readLand) ∈ TB := TB_7 (i := 15) rfl rfl
set_option maxRecDepth 4000 in
theorem wd_1538 : (Cond.code yX10_readLand cX10_readLand 3 none) ∈ TB := TB_7 (i := 16) rfl rfl
set_option maxRecDepth 4000 in
theorem wd_1539 : (Cond.methodLink RX10 145 yX10_wrong) ∈ TB := TB_7 (i := 17) rfl rfl
set_option maxRecDepth 4000 in
theorem wd_1541 : (Cond.instanceMethod yX10_wrong) ∈ TB := TB_7 (i := 19) rfl rfl
set_option maxRecDepth 4000 in
theorem wd_1542 : (Cond.code yX10_wrong cX10_wrong 2 none) ∈ TB := TB_7 (i := 20) rfl rfl
set_option maxRecDepth 4000 in
theorem wd_1543 : (Cond.methodLink RX10 169 yX10_newName) ∈ TB := TB_7 (i := 21) rfl rfl
set_option maxRecDepth 4000 in
theorem wd_1545 : (Cond.instanceMethod yX10_newName) ∈ TB := TB_7 (i := 23) rfl rfl
set_option maxRecDepth 4000 in
theorem wd_1546 : (Cond.code yX10_newName cX10_newName 4 none) ∈ TB := TB_7 (i := 24) rfl rfl
set_option maxRecDepth 4000 in
theorem wd_1547 : (Cond.methodLink RX10 149 yX10_goOn) ∈ TB := TB_7 (i := 25) rfl rfl
set_option maxRecDepth 4000 in
theorem wd_1549 : (Cond.instanceMethod yX10_goOn) ∈ TB := TB_7 (i := 27) rfl rfl
set_option maxRecDepth 4000 in
theorem wd_1550 : (Cond.code yX10_goOn cX10_goOn 1 none) ∈ TB := TB_7 (i := 28) rfl rfl
set_option maxRecDepth 4000 in
theorem wd_1551 : (Cond.methodLink RX10 152 yX10_isOther) ∈ TB := TB_7 (i := 29) rfl rfl
set_option maxRecDepth 4000 in
theorem wd_1553 : (Cond.instanceMethod yX10_isOther) ∈ TB := TB_7 (i := 31) rfl rfl
set_option maxRecDepth 4000 in
theorem wd_1554 : (Cond.code yX10_isOther cX10_isOther 1 (some .boolean)) ∈ TB := TB_7 (i := 32) rfl rfl
set_option maxRecDepth 4000 in
theorem wd_1555 : (Cond.methodLink RX10 159 yX10_named) ∈ TB := TB_7 (i := 33) rfl rfl
set_option maxRecDepth 4000 in
theorem wd_1557 : (Cond.instanceMethod yX10_named) ∈ TB := TB_7 (i := 35) rfl rfl
set_option maxRecDepth 4000 in
theorem wd_1558 : (Cond.code yX10_named cX10_named 4 (some .int)) ∈ TB := TB_7 (i := 36) rfl rfl
set_option maxRecDepth 4000 in
theorem wd_1559 : (Cond.methodLink RX10 173 yX10_among) ∈ TB := TB_7 (i := 37) rfl rfl
set_option maxRecDepth 4000 in
theorem wd_1561 : (Cond.instanceMethod yX10_among) ∈ TB := TB_7 (i := 39) rfl rfl
set_option maxRecDepth 4000 in
theorem wd_1562 : (Cond.code yX10_among cX10_among 4 (some .int)) ∈ TB := TB_7 (i := 40) rfl rfl
set_option maxRecDepth 4000 in
theorem wd_1563 : (Cond.methodLink RX10 177 yX10_number) ∈ TB := TB_7 (i := 41) rfl rfl
set_option maxRecDepth 4000 in
theorem wd_1565 : (Cond.instanceMethod yX10_number) ∈ TB := TB_7 (i := 43) rfl rfl
set_option maxRecDepth 4000 in
theorem wd_1566 : (Cond.code yX10_number cX10_number 4 (some .int)) ∈ TB := TB_7 (i := 44) rfl rfl
set_option maxRecDepth 4000 in
theorem wd_1567 : (Cond.methodLink RX10 180 yX10_isEnd) ∈ TB := TB_7 (i := 45) rfl rfl
set_option maxRecDepth 4000 in
theorem wd_1569 : (Cond.instanceMethod yX10_isEnd) ∈ TB := TB_7 (i := 47) rfl rfl
set_option maxRecDepth 4000 in
theorem wd_1570 : (Cond.code yX10_isEnd cX10_isEnd 1 (some .boolean)) ∈ TB := TB_7 (i := 48) rfl rfl
set_option maxRecDepth 4000 in
theorem wd_1571 : (Cond.methodLink RX10 202 yX10_readPlayer) ∈ TB := TB_7 (i := 49) rfl rfl
set_option maxRecDepth 4000 in
theorem wd_1573 : (Cond.instanceMethod yX10_readPlayer) ∈ TB := TB_7 (i := 51) rfl rfl
set_option maxRecDepth 4000 in
theorem wd_1574 : (Cond.code yX10_readPlayer cX10_readPlayer 2 none) ∈ TB := TB_7 (i := 52) rfl rfl
set_option maxRecDepth 4000 in
theorem wd_1575 : (Cond.methodLink RX10 205 yX10_readSession) ∈ TB := TB_7 (i := 53) rfl rfl
set_option maxRecDepth 4000 in
theorem wd_1577 : (Cond.instanceMethod yX10_readSession) ∈ TB := TB_7 (i := 55) rfl rfl
set_option maxRecDepth 4000 in
theorem wd_1578 : (Cond.code yX10_readSession cX10_readSession 2 none) ∈ TB := TB_7 (i := 56) rfl rfl
set_option maxRecDepth 4000 in
theorem wd_1579 : (Cond.methodLink RX10 183 yX10_readOne) ∈ TB := TB_7 (i := 57) rfl rfl
set_option maxRecDepth 4000 in
theorem wd_1581 : (Cond.instanceMethod yX10_readOne) ∈ TB := TB_7 (i := 59) rfl rfl
set_option maxRecDepth 4000 in
theorem wd_1582 : (Cond.code yX10_readOne cX10_readOne 4 none) ∈ TB := TB_7 (i := 60) rfl rfl
set_option maxRecDepth 4000 in
theorem wd_1583 : (Cond.methodLink RX10 208 yX10_readLead) ∈ TB := TB_7 (i := 61) rfl rfl
set_option maxRecDepth 4000 in
theorem wd_1585 : (Cond.instanceMethod yX10_readLead) ∈ TB := TB_7 (i := 63) rfl rfl
set_option maxRecDepth 4000 in
theorem wd_1586 : (Cond.code yX10_readLead cX10_readLead 1 none) ∈ TB := TB_7 (i := 64) rfl rfl
set_option maxRecDepth 4000 in
theorem wd_1587 : (Cond.methodLink RX10 211 yX10_readKeep) ∈ TB := TB_7 (i := 65) rfl rfl
set_option maxRecDepth 4000 in
theorem wd_1589 : (Cond.instanceMethod yX10_readKeep) ∈ TB := TB_7 (i := 67) rfl rfl
set_option maxRecDepth 4000 in
theorem wd_1590 : (Cond.code yX10_readKeep cX10_readKeep 1 none) ∈ TB := TB_7 (i := 68) rfl rfl
set_option maxRecDepth 4000 in
theorem wd_1591 : (Cond.methodLink RX10 223 yX10_takesText) ∈ TB := TB_7 (i := 69) rfl rfl
set_option maxRecDepth 4000 in
theorem wd_1593 : (Cond.instanceMethod yX10_takesText) ∈ TB := TB_7 (i := 71) rfl rfl
set_option maxRecDepth 4000 in
theorem wd_1594 : (Cond.code yX10_takesText cX10_takesText 2 none) ∈ TB := TB_7 (i := 72) rfl rfl
set_option maxRecDepth 4000 in
theorem wd_1595 : (Cond.methodLink RL 40 yX10_fault) ∈ TB := TB_7 (i := 73) rfl rfl
set_option maxRecDepth 4000 in
theorem wd_1596 : (Cond.instanceMethod yX10_fault) ∈ TB := TB_7 (i := 74) rfl rfl
set_option maxRecDepth 4000 in
theorem wd_1597 : (Cond.selects RX10 yX10_fault yX10_fault) ∈ TB := TB_7 (i := 75) rfl rfl
set_option maxRecDepth 4000 in
theorem wd_1598 : (Cond.code yX10_fault cX10_fault 2 (some .int)) ∈ TB := TB_7 (i := 76) rfl rfl
set_option maxRecDepth 4000 in
theorem wd_1599 : (Cond.methodLink RL 46 yX10_land) ∈ TB := TB_7 (i := 77) rfl rfl
set_option maxRecDepth 4000 in
theorem wd_1600 : (Cond.instanceMethod yX10_land) ∈ TB := TB_7 (i := 78) rfl rfl
set_option maxRecDepth 4000 in
theorem wd_1601 : (Cond.selects RX10 yX10_land yX10_land) ∈ TB := TB_7 (i := 79) rfl rfl
set_option maxRecDepth 4000 in
theorem wd_1602 : (Cond.code yX10_land cX10_land 5 (some .int)) ∈ TB := TB_7 (i := 80) rfl rfl
set_option maxRecDepth 4000 in
theorem wd_1603 : (Cond.methodLink RX10 257 yX10_isLand) ∈ TB := TB_7 (i := 81) rfl rfl
set_option maxRecDepth 4000 in
theorem wd_1605 : (Cond.instanceMethod yX10_isLand) ∈ TB := TB_7 (i := 83) rfl rfl
set_option maxRecDepth 4000 in
theorem wd_1606 : (Cond.code yX10_isLand cX10_isLand 2 (some .boolean)) ∈ TB := TB_7 (i := 84) rfl rfl
set_option maxRecDepth 4000 in
theorem wd_1607 : (Cond.methodLink RX10 248 yX10_paidIn) ∈ TB := TB_7 (i := 85) rfl rfl
set_option maxRecDepth 4000 in
theorem wd_1609 : (Cond.instanceMethod yX10_paidIn) ∈ TB := TB_7 (i := 87) rfl rfl
set_option maxRecDepth 4000 in
theorem wd_1610 : (Cond.code yX10_paidIn cX10_paidIn 3 (some .int)) ∈ TB := TB_7 (i := 88) rfl rfl
set_option maxRecDepth 4000 in
theorem wd_1611 : (Cond.methodLink RX10 260 yX10_keptIn) ∈ TB := TB_7 (i := 89) rfl rfl
set_option maxRecDepth 4000 in
theorem wd_1613 : (Cond.instanceMethod yX10_keptIn) ∈ TB := TB_7 (i := 91) rfl rfl
set_option maxRecDepth 4000 in
theorem wd_1614 : (Cond.code yX10_keptIn cX10_keptIn 4 (some .int)) ∈ TB := TB_7 (i := 92) rfl rfl
set_option maxRecDepth 4000 in
theorem wd_1615 : (Cond.methodLink RX10 244 yX10_keptAt) ∈ TB := TB_7 (i := 93) rfl rfl
set_option maxRecDepth 4000 in
theorem wd_1616 : (Cond.static yX10_keptAt) ∈ TB := TB_7 (i := 94) rfl rfl
set_option maxRecDepth 4000 in
theorem wd_1617 : (Cond.code yX10_keptAt cX10_keptAt 3 (some .int)) ∈ TB := TB_7 (i := 95) rfl rfl
set_option maxRecDepth 4000 in
theorem wd_1618 : (Cond.methodLink RL 53 yX10_player) ∈ TB := TB_7 (i := 96) rfl rfl
set_option maxRecDepth 4000 in
theorem wd_1619 : (Cond.instanceMethod yX10_player) ∈ TB := TB_7 (i := 97) rfl rfl
set_option maxRecDepth 4000 in
theorem wd_1620 : (Cond.selects RX10 yX10_player yX10_player) ∈ TB := TB_7 (i := 98) rfl rfl
set_option maxRecDepth 4000 in
theorem wd_1621 : (Cond.code yX10_player cX10_player 5 (some .int)) ∈ TB := TB_7 (i := 99) rfl rfl
set_option maxRecDepth 4000 in
theorem wd_1622 : (Cond.methodLink RX10 264 yX10_isPlayer) ∈ TB := TB_7 (i := 100) rfl rfl
set_option maxRecDepth 4000 in
theorem wd_1624 : (Cond.instanceMethod yX10_isPlayer) ∈ TB := TB_7 (i := 102) rfl rfl
set_option maxRecDepth 4000 in
theorem wd_1625 : (Cond.code yX10_isPlayer cX10_isPlayer 2 (some .boolean)) ∈ TB := TB_7 (i := 103) rfl rfl
set_option maxRecDepth 4000 in
theorem wd_1626 : (Cond.methodLink RX10 267 yX10_paidAll) ∈ TB := TB_7 (i := 104) rfl rfl
set_option maxRecDepth 4000 in
theorem wd_1628 : (Cond.instanceMethod yX10_paidAll) ∈ TB := TB_7 (i := 106) rfl rfl
set_option maxRecDepth 4000 in
theorem wd_1629 : (Cond.code yX10_paidAll cX10_paidAll 4 (some .int)) ∈ TB := TB_7 (i := 107) rfl rfl
set_option maxRecDepth 4000 in
theorem wd_1630 : (Cond.methodLink RX10 270 yX10_weightAll) ∈ TB := TB_7 (i := 108) rfl rfl
set_option maxRecDepth 4000 in
theorem wd_1632 : (Cond.instanceMethod yX10_weightAll) ∈ TB := TB_7 (i := 110) rfl rfl
set_option maxRecDepth 4000 in
theorem wd_1633 : (Cond.code yX10_weightAll cX10_weightAll 4 (some .int)) ∈ TB := TB_7 (i := 111) rfl rfl
set_option maxRecDepth 4000 in
theorem wd_1634 : (Cond.methodLink RX10 251 yX10_weightIn) ∈ TB := TB_7 (i := 112) rfl rfl
set_option maxRecDepth 4000 in
theorem wd_1636 : (Cond.instanceMethod yX10_weightIn) ∈ TB := TB_7 (i := 114) rfl rfl
set_option maxRecDepth 4000 in
theorem wd_1637 : (Cond.code yX10_weightIn cX10_weightIn 3 (some .int)) ∈ TB := TB_7 (i := 115) rfl rfl
set_option maxRecDepth 4000 in
theorem wd_1638 : (Cond.methodLink RX10 273 yX10_roleOf) ∈ TB := TB_7 (i := 116) rfl rfl
set_option maxRecDepth 4000 in
theorem wd_1640 : (Cond.instanceMethod yX10_roleOf) ∈ TB := TB_7 (i := 118) rfl rfl
set_option maxRecDepth 4000 in
theorem wd_1641 : (Cond.code yX10_roleOf cX10_roleOf 4 (some .int)) ∈ TB := TB_7 (i := 119) rfl rfl
set_option maxRecDepth 4000 in
theorem wd_1642 : (Cond.methodLink RX10 254 yX10_owner) ∈ TB := TB_7 (i := 120) rfl rfl
set_option maxRecDepth 4000 in
theorem wd_1644 : (Cond.instanceMethod yX10_owner) ∈ TB := TB_7 (i := 122) rfl rfl
set_option maxRecDepth 4000 in
theorem wd_1645 : (Cond.code yX10_owner cX10_owner 3 (some .int)) ∈ TB := TB_7 (i := 123) rfl rfl
set_option maxRecDepth 4000 in
theorem wd_1646 : (Cond.methodLink RX10 276 yX10_paidByOf) ∈ TB := TB_7 (i := 124) rfl rfl
set_option maxRecDepth 4000 in
theorem wd_1648 : (Cond.instanceMethod yX10_paidByOf) ∈ TB := TB_7 (i := 126) rfl rfl
set_option maxRecDepth 4000 in
theorem wd_1649 : (Cond.code yX10_paidByOf cX10_paidByOf 5 (some .int)) ∈ TB := TB_7 (i := 127) rfl rfl
set_option maxRecDepth 4000 in
theorem wd_1650 : (Cond.methodLink RX10 279 yX10_doesPay) ∈ TB := TB_7 (i := 128) rfl rfl
set_option maxRecDepth 4000 in
theorem wd_1652 : (Cond.instanceMethod yX10_doesPay) ∈ TB := TB_7 (i := 130) rfl rfl
set_option maxRecDepth 4000 in
theorem wd_1653 : (Cond.code yX10_doesPay cX10_doesPay 4 (some .boolean)) ∈ TB := TB_7 (i := 131) rfl rfl
set_option maxRecDepth 4000 in
theorem wd_1654 : (Cond.methodLink RL 56 yX10_session) ∈ TB := TB_7 (i := 132) rfl rfl
set_option maxRecDepth 4000 in
theorem wd_1655 : (Cond.instanceMethod yX10_session) ∈ TB := TB_7 (i := 133) rfl rfl
set_option maxRecDepth 4000 in
theorem wd_1656 : (Cond.selects RX10 yX10_session yX10_session) ∈ TB := TB_7 (i := 134) rfl rfl
set_option maxRecDepth 4000 in
theorem wd_1657 : (Cond.code yX10_session cX10_session 6 (some .int)) ∈ TB := TB_7 (i := 135) rfl rfl
set_option maxRecDepth 4000 in
theorem wd_1658 : (Cond.methodLink RX10 241 yX10_isSession) ∈ TB := TB_7 (i := 136) rfl rfl
set_option maxRecDepth 4000 in
theorem wd_1660 : (Cond.instanceMethod yX10_isSession) ∈ TB := TB_7 (i := 138) rfl rfl
set_option maxRecDepth 4000 in
theorem wd_1661 : (Cond.code yX10_isSession cX10_isSession 2 (some .boolean)) ∈ TB := TB_7 (i := 139) rfl rfl
set_option maxRecDepth 4000 in
theorem wd_1662 : (Cond.methodLink RX10 283 yX10_manyOf) ∈ TB := TB_7 (i := 140) rfl rfl
set_option maxRecDepth 4000 in
theorem wd_1664 : (Cond.instanceMethod yX10_manyOf) ∈ TB := TB_7 (i := 142) rfl rfl
set_option maxRecDepth 4000 in
theorem wd_1665 : (Cond.code yX10_manyOf cX10_manyOf 5 (some .int)) ∈ TB := TB_7 (i := 143) rfl rfl
set_option maxRecDepth 4000 in
theorem wd_1666 : (Cond.methodLink RX10 286 yX10_openOf) ∈ TB := TB_7 (i := 144) rfl rfl
set_option maxRecDepth 4000 in
theorem wd_1668 : (Cond.instanceMethod yX10_openOf) ∈ TB := TB_7 (i := 146) rfl rfl
set_option maxRecDepth 4000 in
theorem wd_1669 : (Cond.code yX10_openOf cX10_openOf 4 (some .int)) ∈ TB := TB_7 (i := 147) rfl rfl
set_option maxRecDepth 4000 in
theorem wd_1670 : (Cond.methodLink RX10 289 yX10_keptOf) ∈ TB := TB_7 (i := 148) rfl rfl
set_option maxRecDepth 4000 in
theorem wd_1672 : (Cond.instanceMethod yX10_keptOf) ∈ TB := TB_7 (i := 150) rfl rfl
set_option maxRecDepth 4000 in
theorem wd_1673 : (Cond.code yX10_keptOf cX10_keptOf 6 (some .int)) ∈ TB := TB_7 (i := 151) rfl rfl
set_option maxRecDepth 4000 in
theorem wd_1674 : (Cond.methodLink RL 61 yX10_of) ∈ TB := TB_7 (i := 152) rfl rfl
set_option maxRecDepth 4000 in
theorem wd_1675 : (Cond.instanceMethod yX10_of) ∈ TB := TB_7 (i := 153) rfl rfl
set_option maxRecDepth 4000 in
theorem wd_1676 : (Cond.selects RX10 yX10_of yX10_of) ∈ TB := TB_7 (i := 154) rfl rfl
set_option maxRecDepth 4000 in
theorem wd_1677 : (Cond.code yX10_of cX10_of 4 (some .int)) ∈ TB := TB_7 (i := 155) rfl rfl
set_option maxRecDepth 4000 in
theorem wd_1678 : (Cond.methodLink RL 65 yX10_seat) ∈ TB := TB_7 (i := 156) rfl rfl
set_option maxRecDepth 4000 in
theorem wd_1679 : (Cond.instanceMethod yX10_seat) ∈ TB := TB_7 (i := 157) rfl rfl
set_option maxRecDepth 4000 in
theorem wd_1680 : (Cond.selects RX10 yX10_seat yX10_seat) ∈ TB := TB_7 (i := 158) rfl rfl
set_option maxRecDepth 4000 in
theorem wd_1681 : (Cond.code yX10_seat cX10_seat 3 (some .int)) ∈ TB := TB_7 (i := 159) rfl rfl
set_option maxRecDepth 4000 in
theorem wd_1682 : (Cond.methodLink RX10 292 yX10_isSeat) ∈ TB := TB_7 (i := 160) rfl rfl
set_option maxRecDepth 4000 in
theorem wd_1684 : (Cond.instanceMethod yX10_isSeat) ∈ TB := TB_7 (i := 162) rfl rfl
set_option maxRecDepth 4000 in
theorem wd_1685 : (Cond.code yX10_isSeat cX10_isSeat 3 (some .boolean)) ∈ TB := TB_7 (i := 163) rfl rfl
set_option maxRecDepth 4000 in
theorem wd_1686 : (Cond.methodLink RL 69 yX10_role) ∈ TB := TB_7 (i := 164) rfl rfl
set_option maxRecDepth 4000 in
theorem wd_1687 : (Cond.instanceMethod yX10_role) ∈ TB := TB_7 (i := 165) rfl rfl
set_option maxRecDepth 4000 in
theorem wd_1688 : (Cond.selects RX10 yX10_role yX10_role) ∈ TB := TB_7 (i := 166) rfl rfl
set_option maxRecDepth 4000 in
theorem wd_1689 : (Cond.code yX10_role cX10_role 3 (some .int)) ∈ TB := TB_7 (i := 167) rfl rfl
set_option maxRecDepth 4000 in
theorem wd_1690 : (Cond.methodLink RL 73 yX10_pays) ∈ TB := TB_7 (i := 168) rfl rfl
set_option maxRecDepth 4000 in
theorem wd_1691 : (Cond.instanceMethod yX10_pays) ∈ TB := TB_7 (i := 169) rfl rfl
set_option maxRecDepth 4000 in
theorem wd_1692 : (Cond.selects RX10 yX10_pays yX10_pays) ∈ TB := TB_7 (i := 170) rfl rfl
set_option maxRecDepth 4000 in
theorem wd_1693 : (Cond.code yX10_pays cX10_pays 4 (some .int)) ∈ TB := TB_7 (i := 171) rfl rfl
set_option maxRecDepth 4000 in
theorem wd_1694 : (Cond.methodLink RX10 296 yX10_isRole) ∈ TB := TB_7 (i := 172) rfl rfl
set_option maxRecDepth 4000 in
theorem wd_1695 : (Cond.static yX10_isRole) ∈ TB := TB_7 (i := 173) rfl rfl
set_option maxRecDepth 4000 in
theorem wd_1696 : (Cond.code yX10_isRole cX10_isRole 1 (some .boolean)) ∈ TB := TB_7 (i := 174) rfl rfl
set_option maxRecDepth 4000 in
theorem wd_1697 : (Cond.methodLink RL 77 yX10_paidBy) ∈ TB := TB_7 (i := 175) rfl rfl
set_option maxRecDepth 4000 in
theorem wd_1698 : (Cond.instanceMethod yX10_paidBy) ∈ TB := TB_7 (i := 176) rfl rfl
set_option maxRecDepth 4000 in
theorem wd_1699 : (Cond.selects RX10 yX10_paidBy yX10_paidBy) ∈ TB := TB_7 (i := 177) rfl rfl
set_option maxRecDepth 4000 in
theorem wd_1700 : (Cond.code yX10_paidBy cX10_paidBy 3 (some .int)) ∈ TB := TB_7 (i := 178) rfl rfl
set_option maxRecDepth 4000 in
theorem wd_1701 : (Cond.methodLink RL 81 yX10_answer) ∈ TB := TB_7 (i := 179) rfl rfl
set_option maxRecDepth 4000 in
theorem wd_1702 : (Cond.instanceMethod yX10_answer) ∈ TB := TB_7 (i := 180) rfl rfl
set_option maxRecDepth 4000 in
theorem wd_1703 : (Cond.selects RX10 yX10_answer yX10_answer) ∈ TB := TB_7 (i := 181) rfl rfl
set_option maxRecDepth 4000 in
theorem wd_1704 : (Cond.code yX10_answer cX10_answer 3 (some .int)) ∈ TB := TB_7 (i := 182) rfl rfl
set_option maxRecDepth 4000 in
theorem wd_1705 : (Cond.methodLink RX10 299 yX10_doAnswer) ∈ TB := TB_7 (i := 183) rfl rfl
set_option maxRecDepth 4000 in
theorem wd_1707 : (Cond.instanceMethod yX10_doAnswer) ∈ TB := TB_7 (i := 185) rfl rfl
set_option maxRecDepth 4000 in
theorem wd_1708 : (Cond.code yX10_doAnswer cX10_doAnswer 3 (some .boolean)) ∈ TB := TB_7 (i := 186) rfl rfl
set_option maxRecDepth 4000 in
theorem wd_1709 : (Cond.methodLink RL 85 yX10_ring) ∈ TB := TB_7 (i := 187) rfl rfl
set_option maxRecDepth 4000 in
theorem wd_1710 : (Cond.instanceMethod yX10_ring) ∈ TB := TB_7 (i := 188) rfl rfl
set_option maxRecDepth 4000 in
theorem wd_1711 : (Cond.selects RX10 yX10_ring yX10_ring) ∈ TB := TB_7 (i := 189) rfl rfl
set_option maxRecDepth 4000 in
theorem wd_1712 : (Cond.code yX10_ring cX10_ring 2 (some .int)) ∈ TB := TB_7 (i := 190) rfl rfl
set_option maxRecDepth 4000 in
theorem wd_1713 : (Cond.methodLink RX10 302 yX10_ringOf) ∈ TB := TB_7 (i := 191) rfl rfl
set_option maxRecDepth 4000 in
theorem wd_1715 : (Cond.instanceMethod yX10_ringOf) ∈ TB := TB_7 (i := 193) rfl rfl
set_option maxRecDepth 4000 in
theorem wd_1716 : (Cond.code yX10_ringOf cX10_ringOf 6 (some .int)) ∈ TB := TB_7 (i := 194) rfl rfl
set_option maxRecDepth 4000 in
theorem wd_1717 : (Cond.methodLink RL 89 yX10_rings) ∈ TB := TB_7 (i := 195) rfl rfl
set_option maxRecDepth 4000 in
theorem wd_1718 : (Cond.instanceMethod yX10_rings) ∈ TB := TB_7 (i := 196) rfl rfl
set_option maxRecDepth 4000 in
theorem wd_1719 : (Cond.selects RX10 yX10_rings yX10_rings) ∈ TB := TB_7 (i := 197) rfl rfl
set_option maxRecDepth 4000 in
theorem wd_1720 : (Cond.code yX10_rings cX10_rings 3 (some .int)) ∈ TB := TB_7 (i := 198) rfl rfl
set_option maxRecDepth 4000 in
theorem wd_1721 : (Cond.methodLink RL 127 yX10_undo) ∈ TB := TB_7 (i := 199) rfl rfl
set_option maxRecDepth 4000 in
theorem wd_1722 : (Cond.instanceMethod yX10_undo) ∈ TB := TB_7 (i := 200) rfl rfl
set_option maxRecDepth 4000 in
theorem wd_1723 : (Cond.selects RX10 yX10_undo yX10_undo) ∈ TB := TB_7 (i := 201) rfl rfl
set_option maxRecDepth 4000 in
theorem wd_1724 : (Cond.code yX10_undo cX10_undo 2 (some .int)) ∈ TB := TB_7 (i := 202) rfl rfl
set_option maxRecDepth 4000 in
theorem wd_1725 : (Cond.methodLink RL 93 yX10_play) ∈ TB := TB_7 (i := 203) rfl rfl
set_option maxRecDepth 4000 in
theorem wd_1726 : (Cond.instanceMethod yX10_play) ∈ TB := TB_7 (i := 204) rfl rfl
set_option maxRecDepth 4000 in
theorem wd_1727 : (Cond.selects RX10 yX10_play yX10_play) ∈ TB := TB_7 (i := 205) rfl rfl
set_option maxRecDepth 4000 in
theorem wd_1728 : (Cond.code yX10_play cX10_play 8 (some .int)) ∈ TB := TB_7 (i := 206) rfl rfl
set_option maxRecDepth 4000 in
theorem wd_1729 : (Cond.methodLink RX10 324 yX10_areCopies) ∈ TB := TB_7 (i := 207) rfl rfl
set_option maxRecDepth 4000 in
theorem wd_1730 : (Cond.static yX10_areCopies) ∈ TB := TB_7 (i := 208) rfl rfl
set_option maxRecDepth 4000 in
theorem wd_1731 : (Cond.code yX10_areCopies cX10_areCopies 1 (some .boolean)) ∈ TB := TB_7 (i := 209) rfl rfl
set_option maxRecDepth 4000 in
theorem wd_1732 : (Cond.methodLink RX10 327 yX10_isTooMuch) ∈ TB := TB_7 (i := 210) rfl rfl
set_option maxRecDepth 4000 in
theorem wd_1734 : (Cond.instanceMethod yX10_isTooMuch) ∈ TB := TB_7 (i := 212) rfl rfl
set_option maxRecDepth 4000 in
theorem wd_1735 : (Cond.code yX10_isTooMuch cX10_isTooMuch 3 (some .boolean)) ∈ TB := TB_7 (i := 213) rfl rfl
set_option maxRecDepth 4000 in
theorem wd_1736 : (Cond.constant RX10 323 (300000000)) ∈ TB := TB_7 (i := 214) rfl rfl
set_option maxRecDepth 4000 in
theorem wd_1737 : (Cond.methodLink RX10 330 yX10_keeps) ∈ TB := TB_7 (i := 215) rfl rfl
set_option maxRecDepth 4000 in
theorem wd_1739 : (Cond.instanceMethod yX10_keeps) ∈ TB := TB_7 (i := 217) rfl rfl
set_option maxRecDepth 4000 in
theorem wd_1740 : (Cond.code yX10_keeps cX10_keeps 2 none) ∈ TB := TB_7 (i := 218) rfl rfl
set_option maxRecDepth 4000 in
theorem wd_1741 : (Cond.methodLink RX10 333 yX10_sumOf) ∈ TB := TB_7 (i := 219) rfl rfl
set_option maxRecDepth 4000 in
theorem wd_1743 : (Cond.instanceMethod yX10_sumOf) ∈ TB := TB_7 (i := 221) rfl rfl
set_option maxRecDepth 4000 in
theorem wd_1744 : (Cond.code yX10_sumOf cX10_sumOf 7 (some .int)) ∈ TB := TB_7 (i := 222) rfl rfl
set_option maxRecDepth 4000 in
theorem wd_1745 : (Cond.methodLink RX10 316 yX10_laysShares) ∈ TB := TB_7 (i := 223) rfl rfl
set_option maxRecDepth 4000 in
theorem wd_1747 : (Cond.instanceMethod yX10_laysShares) ∈ TB := TB_7 (i := 225) rfl rfl
set_option maxRecDepth 4000 in
theorem wd_1748 : (Cond.code yX10_laysShares cX10_laysShares 10 none) ∈ TB := TB_7 (i := 226) rfl rfl
set_option maxRecDepth 4000 in
theorem wd_1749 : (Cond.methodLink RX10 305 yX10_whole) ∈ TB := TB_7 (i := 227) rfl rfl
set_option maxRecDepth 4000 in
theorem wd_1751 : (Cond.instanceMethod yX10_whole) ∈ TB := TB_7 (i := 229) rfl rfl
set_option maxRecDepth 4000 in
theorem wd_1752 : (Cond.code yX10_whole cX10_whole 2 (some .int)) ∈ TB := TB_7 (i := 230) rfl rfl
set_option maxRecDepth 4000 in
theorem wd_1753 : (Cond.constantLong RX10 308 (100)) ∈ TB := TB_7 (i := 231) rfl rfl
set_option maxRecDepth 4000 in
theorem wd_1754 : (Cond.methodLink RX10 310 yX10_roleAt) ∈ TB := TB_7 (i := 232) rfl rfl
set_option maxRecDepth 4000 in
theorem wd_1756 : (Cond.instanceMethod yX10_roleAt) ∈ TB := TB_7 (i := 234) rfl rfl
set_option maxRecDepth 4000 in
theorem wd_1757 : (Cond.code yX10_roleAt cX10_roleAt 3 (some .int)) ∈ TB := TB_7 (i := 235) rfl rfl
set_option maxRecDepth 4000 in
theorem wd_1758 : (Cond.methodLink RX10 320 yX10_where) ∈ TB := TB_7 (i := 236) rfl rfl
set_option maxRecDepth 4000 in
theorem wd_1760 : (Cond.instanceMethod yX10_where) ∈ TB := TB_7 (i := 238) rfl rfl
set_option maxRecDepth 4000 in
theorem wd_1761 : (Cond.code yX10_where cX10_where 5 (some .int)) ∈ TB := TB_7 (i := 239) rfl rfl
set_option maxRecDepth 4000 in
theorem wd_1762 : (Cond.methodLink RX10 313 yX10_whose) ∈ TB := TB_8 (i := 0) rfl rfl
set_option maxRecDepth 4000 in
theorem wd_1764 : (Cond.instanceMethod yX10_whose) ∈ TB := TB_8 (i := 2) rfl rfl
set_option maxRecDepth 4000 in
theorem wd_1765 : (Cond.code yX10_whose cX10_whose 3 (some .int)) ∈ TB := TB_8 (i := 3) rfl rfl
set_option maxRecDepth 4000 in
theorem wd_1766 : (Cond.methodLink RX10 337 yX10_pays_) ∈ TB := TB_8 (i := 4) rfl rfl
set_option maxRecDepth 4000 in
theorem wd_1768 : (Cond.instanceMethod yX10_pays_) ∈ TB := TB_8 (i := 6) rfl rfl
set_option maxRecDepth 4000 in
theorem wd_1769 : (Cond.code yX10_pays_ cX10_pays_ 5 none) ∈ TB := TB_8 (i := 7) rfl rfl
set_option maxRecDepth 4000 in
theorem wd_1770 : (Cond.methodLink RL 97 yX10_year) ∈ TB := TB_8 (i := 8) rfl rfl
set_option maxRecDepth 4000 in
theorem wd_1771 : (Cond.instanceMethod yX10_year) ∈ TB := TB_8 (i := 9) rfl rfl
set_option maxRecDepth 4000 in
theorem wd_1772 : (Cond.selects RX10 yX10_year yX10_year) ∈ TB := TB_8 (i := 10) rfl rfl
set_option maxRecDepth 4000 in
theorem wd_1773 : (Cond.code yX10_year cX10_year 5 (some .int)) ∈ TB := TB_8 (i := 11) rfl rfl
set_option maxRecDepth 4000 in
theorem wd_1774 : (Cond.methodLink RX10 341 yX10_goesYear) ∈ TB := TB_8 (i := 12) rfl rfl
set_option maxRecDepth 4000 in
theorem wd_1776 : (Cond.instanceMethod yX10_goesYear) ∈ TB := TB_8 (i := 14) rfl rfl
set_option maxRecDepth 4000 in
theorem wd_1777 : (Cond.code yX10_goesYear cX10_goesYear 7 (some .int)) ∈ TB := TB_8 (i := 15) rfl rfl
set_option maxRecDepth 4000 in
theorem wd_1778 : (Cond.methodLink RX10 344 yX10_lapsedAt) ∈ TB := TB_8 (i := 16) rfl rfl
set_option maxRecDepth 4000 in
theorem wd_1779 : (Cond.static yX10_lapsedAt) ∈ TB := TB_8 (i := 17) rfl rfl
set_option maxRecDepth 4000 in
theorem wd_1780 : (Cond.code yX10_lapsedAt cX10_lapsedAt 3 (some .int)) ∈ TB := TB_8 (i := 18) rfl rfl
set_option maxRecDepth 4000 in
theorem wd_1781 : (Cond.methodLink RL 101 yX10_claim) ∈ TB := TB_8 (i := 19) rfl rfl
set_option maxRecDepth 4000 in
theorem wd_1782 : (Cond.instanceMethod yX10_claim) ∈ TB := TB_8 (i := 20) rfl rfl
set_option maxRecDepth 4000 in
theorem wd_1783 : (Cond.selects RX10 yX10_claim yX10_claim) ∈ TB := TB_8 (i := 21) rfl rfl
set_option maxRecDepth 4000 in
theorem wd_1784 : (Cond.code yX10_claim cX10_claim 9 (some .int)) ∈ TB := TB_8 (i := 22) rfl rfl
set_option maxRecDepth 4000 in
theorem wd_1785 : (Cond.methodLink RX10 350 yX10_whyNoClaim) ∈ TB := TB_8 (i := 23) rfl rfl
set_option maxRecDepth 4000 in
theorem wd_1787 : (Cond.instanceMethod yX10_whyNoClaim) ∈ TB := TB_8 (i := 25) rfl rfl
set_option maxRecDepth 4000 in
theorem wd_1788 : (Cond.code yX10_whyNoClaim cX10_whyNoClaim 3 (some .int)) ∈ TB := TB_8 (i := 26) rfl rfl
set_option maxRecDepth 4000 in
theorem wd_1789 : (Cond.methodLink RX10 347 yX10_openSeat) ∈ TB := TB_8 (i := 27) rfl rfl
set_option maxRecDepth 4000 in
theorem wd_1791 : (Cond.instanceMethod yX10_openSeat) ∈ TB := TB_8 (i := 29) rfl rfl
set_option maxRecDepth 4000 in
theorem wd_1792 : (Cond.code yX10_openSeat cX10_openSeat 3 (some .int)) ∈ TB := TB_8 (i := 30) rfl rfl
set_option maxRecDepth 4000 in
theorem wd_1793 : (Cond.methodLink RX10 353 yX10_broughtBy) ∈ TB := TB_8 (i := 31) rfl rfl
set_option maxRecDepth 4000 in
theorem wd_1795 : (Cond.instanceMethod yX10_broughtBy) ∈ TB := TB_8 (i := 33) rfl rfl
set_option maxRecDepth 4000 in
theorem wd_1796 : (Cond.code yX10_broughtBy cX10_broughtBy 6 (some .int)) ∈ TB := TB_8 (i := 34) rfl rfl
set_option maxRecDepth 4000 in
theorem wd_1797 : (Cond.methodLink RX10 356 yX10_empties) ∈ TB := TB_8 (i := 35) rfl rfl
set_option maxRecDepth 4000 in
theorem wd_1799 : (Cond.instanceMethod yX10_empties) ∈ TB := TB_8 (i := 37) rfl rfl
set_option maxRecDepth 4000 in
theorem wd_1800 : (Cond.code yX10_empties cX10_empties 5 none) ∈ TB := TB_8 (i := 38) rfl rfl
set_option maxRecDepth 4000 in
theorem wd_1801 : (Cond.methodLink RL 105 yX10_part) ∈ TB := TB_8 (i := 39) rfl rfl
set_option maxRecDepth 4000 in
theorem wd_1802 : (Cond.instanceMethod yX10_part) ∈ TB := TB_8 (i := 40) rfl rfl
set_option maxRecDepth 4000 in
theorem wd_1803 : (Cond.selects RX10 yX10_part yX10_part) ∈ TB := TB_8 (i := 41) rfl rfl
set_option maxRecDepth 4000 in
theorem wd_1804 : (Cond.code yX10_part cX10_part 3 (some .int)) ∈ TB := TB_8 (i := 42) rfl rfl
set_option maxRecDepth 4000 in
theorem wd_1805 : (Cond.methodLink RX10 367 yX10_whyNoPart) ∈ TB := TB_8 (i := 43) rfl rfl
set_option maxRecDepth 4000 in
theorem wd_1807 : (Cond.instanceMethod yX10_whyNoPart) ∈ TB := TB_8 (i := 45) rfl rfl
set_option maxRecDepth 4000 in
theorem wd_1808 : (Cond.code yX10_whyNoPart cX10_whyNoPart 2 (some .int)) ∈ TB := TB_8 (i := 46) rfl rfl
set_option maxRecDepth 4000 in
theorem wd_1809 : (Cond.methodLink RX10 360 yX10_allWeights) ∈ TB := TB_8 (i := 47) rfl rfl
set_option maxRecDepth 4000 in
theorem wd_1811 : (Cond.instanceMethod yX10_allWeights) ∈ TB := TB_8 (i := 49) rfl rfl
set_option maxRecDepth 4000 in
theorem wd_1812 : (Cond.code yX10_allWeights cX10_allWeights 5 (some .long)) ∈ TB := TB_8 (i := 50) rfl rfl
set_option maxRecDepth 4000 in
theorem wd_1813 : (Cond.methodLink RX10 370 yX10_parts) ∈ TB := TB_8 (i := 51) rfl rfl
set_option maxRecDepth 4000 in
theorem wd_1815 : (Cond.instanceMethod yX10_parts) ∈ TB := TB_8 (i := 53) rfl rfl
set_option maxRecDepth 4000 in
theorem wd_1816 : (Cond.code yX10_parts cX10_parts 4 (some .int)) ∈ TB := TB_8 (i := 54) rfl rfl
set_option maxRecDepth 4000 in
theorem wd_1817 : (Cond.methodLink RX10 364 yX10_laysParts) ∈ TB := TB_8 (i := 55) rfl rfl
set_option maxRecDepth 4000 in
theorem wd_1819 : (Cond.instanceMethod yX10_laysParts) ∈ TB := TB_8 (i := 57) rfl rfl
set_option maxRecDepth 4000 in
theorem wd_1820 : (Cond.code yX10_laysParts cX10_laysParts 15 none) ∈ TB := TB_8 (i := 58) rfl rfl
set_option maxRecDepth 4000 in
theorem wd_1821 : (Cond.methodLink RL 114 yX10_partAll) ∈ TB := TB_8 (i := 59) rfl rfl
set_option maxRecDepth 4000 in
theorem wd_1822 : (Cond.instanceMethod yX10_partAll) ∈ TB := TB_8 (i := 60) rfl rfl
set_option maxRecDepth 4000 in
theorem wd_1823 : (Cond.selects RX10 yX10_partAll yX10_partAll) ∈ TB := TB_8 (i := 61) rfl rfl
set_option maxRecDepth 4000 in
theorem wd_1824 : (Cond.code yX10_partAll cX10_partAll 4 (some .int)) ∈ TB := TB_8 (i := 62) rfl rfl
set_option maxRecDepth 4000 in
theorem wd_1825 : (Cond.methodLink RL 110 yX10_terms) ∈ TB := TB_8 (i := 63) rfl rfl
set_option maxRecDepth 4000 in
theorem wd_1826 : (Cond.instanceMethod yX10_terms) ∈ TB := TB_8 (i := 64) rfl rfl
set_option maxRecDepth 4000 in
theorem wd_1827 : (Cond.selects RX10 yX10_terms yX10_terms) ∈ TB := TB_8 (i := 65) rfl rfl
set_option maxRecDepth 4000 in
theorem wd_1828 : (Cond.code yX10_terms cX10_terms 4 (some .boolean)) ∈ TB := TB_8 (i := 66) rfl rfl
set_option maxRecDepth 4000 in
theorem wd_1829 : (Cond.methodLink RX10 373 yX10_areTerms) ∈ TB := TB_8 (i := 67) rfl rfl
set_option maxRecDepth 4000 in
theorem wd_1830 : (Cond.static yX10_areTerms) ∈ TB := TB_8 (i := 68) rfl rfl
set_option maxRecDepth 4000 in
theorem wd_1831 : (Cond.code yX10_areTerms cX10_areTerms 2 (some .boolean)) ∈ TB := TB_8 (i := 69) rfl rfl
set_option maxRecDepth 4000 in
theorem wd_1832 : (Cond.methodLink RL 119 yX10_move) ∈ TB := TB_8 (i := 70) rfl rfl
set_option maxRecDepth 4000 in
theorem wd_1833 : (Cond.instanceMethod yX10_move) ∈ TB := TB_8 (i := 71) rfl rfl
set_option maxRecDepth 4000 in
theorem wd_1834 : (Cond.selects RX10 yX10_move yX10_move) ∈ TB := TB_8 (i := 72) rfl rfl
set_option maxRecDepth 4000 in
theorem wd_1835 : (Cond.code yX10_move cX10_move 3 (some .boolean)) ∈ TB := TB_8 (i := 73) rfl rfl
set_option maxRecDepth 4000 in
theorem wd_1836 : (Cond.methodLink RL 123 yX10_giveBack) ∈ TB := TB_8 (i := 74) rfl rfl
set_option maxRecDepth 4000 in
theorem wd_1837 : (Cond.instanceMethod yX10_giveBack) ∈ TB := TB_8 (i := 75) rfl rfl
set_option maxRecDepth 4000 in
theorem wd_1838 : (Cond.selects RX10 yX10_giveBack yX10_giveBack) ∈ TB := TB_8 (i := 76) rfl rfl
set_option maxRecDepth 4000 in
theorem wd_1839 : (Cond.code yX10_giveBack cX10_giveBack 4 (some .int)) ∈ TB := TB_8 (i := 77) rfl rfl
set_option maxRecDepth 4000 in
theorem wd_1840 : (Cond.methodLink RL 131 yX10_paid) ∈ TB := TB_8 (i := 78) rfl rfl
set_option maxRecDepth 4000 in
theorem wd_1841 : (Cond.instanceMethod yX10_paid) ∈ TB := TB_8 (i := 79) rfl rfl
set_option maxRecDepth 4000 in
theorem wd_1842 : (Cond.selects RX10 yX10_paid yX10_paid) ∈ TB := TB_8 (i := 80) rfl rfl
set_option maxRecDepth 4000 in
theorem wd_1843 : (Cond.code yX10_paid cX10_paid 4 (some .int)) ∈ TB := TB_8 (i := 81) rfl rfl
set_option maxRecDepth 4000 in
theorem wd_1844 : (Cond.methodLink RL 136 yX10_kept) ∈ TB := TB_8 (i := 82) rfl rfl
set_option maxRecDepth 4000 in
theorem wd_1845 : (Cond.instanceMethod yX10_kept) ∈ TB := TB_8 (i := 83) rfl rfl
set_option maxRecDepth 4000 in
theorem wd_1846 : (Cond.selects RX10 yX10_kept yX10_kept) ∈ TB := TB_8 (i := 84) rfl rfl
set_option maxRecDepth 4000 in
theorem wd_1847 : (Cond.code yX10_kept cX10_kept 5 (some .int)) ∈ TB := TB_8 (i := 85) rfl rfl
set_option maxRecDepth 4000 in
theorem wd_1848 : (Cond.methodLink RL 140 yX10_lapsed) ∈ TB := TB_8 (i := 86) rfl rfl
set_option maxRecDepth 4000 in
theorem wd_1849 : (Cond.instanceMethod yX10_lapsed) ∈ TB := TB_8 (i := 87) rfl rfl
set_option maxRecDepth 4000 in
theorem wd_1850 : (Cond.selects RX10 yX10_lapsed yX10_lapsed) ∈ TB := TB_8 (i := 88) rfl rfl
set_option maxRecDepth 4000 in
theorem wd_1851 : (Cond.code yX10_lapsed cX10_lapsed 4 (some .int)) ∈ TB := TB_8 (i := 89) rfl rfl
set_option maxRecDepth 4000 in
theorem wd_1852 : (Cond.methodLink RL 144 yX10_lapses) ∈ TB := TB_8 (i := 90) rfl rfl
set_option maxRecDepth 4000 in
theorem wd_1853 : (Cond.instanceMethod yX10_lapses) ∈ TB := TB_8 (i := 91) rfl rfl
set_option maxRecDepth 4000 in
theorem wd_1854 : (Cond.selects RX10 yX10_lapses yX10_lapses) ∈ TB := TB_8 (i := 92) rfl rfl
set_option maxRecDepth 4000 in
theorem wd_1855 : (Cond.code yX10_lapses cX10_lapses 3 (some .int)) ∈ TB := TB_8 (i := 93) rfl rfl
set_option maxRecDepth 4000 in
theorem wd_1856 : (Cond.methodLink RX10 381 yX10_keptFor) ∈ TB := TB_8 (i := 94) rfl rfl
set_option maxRecDepth 4000 in
theorem wd_1858 : (Cond.instanceMethod yX10_keptFor) ∈ TB := TB_8 (i := 96) rfl rfl
set_option maxRecDepth 4000 in
theorem wd_1859 : (Cond.code yX10_keptFor cX10_keptFor 7 (some .int)) ∈ TB := TB_8 (i := 97) rfl rfl
set_option maxRecDepth 4000 in
theorem wd_1860 : (Cond.methodLink RX10 376 yJ9_max_7cf53) ∈ TB := TB_8 (i := 98) rfl rfl
set_option maxRecDepth 4000 in
theorem wd_1861 : (Cond.methodLink RL 198 yX10_nextLapse) ∈ TB := TB_8 (i := 99) rfl rfl
set_option maxRecDepth 4000 in
theorem wd_1862 : (Cond.instanceMethod yX10_nextLapse) ∈ TB := TB_8 (i := 100) rfl rfl
set_option maxRecDepth 4000 in
theorem wd_1863 : (Cond.selects RX10 yX10_nextLapse yX10_nextLapse) ∈ TB := TB_8 (i := 101) rfl rfl
set_option maxRecDepth 4000 in
theorem wd_1864 : (Cond.code yX10_nextLapse cX10_nextLapse 3 (some .int)) ∈ TB := TB_8 (i := 102) rfl rfl
set_option maxRecDepth 4000 in
theorem wd_1865 : (Cond.methodLink RL 148 yX10_share) ∈ TB := TB_8 (i := 103) rfl rfl
set_option maxRecDepth 4000 in
theorem wd_1866 : (Cond.instanceMethod yX10_share) ∈ TB := TB_8 (i := 104) rfl rfl
set_option maxRecDepth 4000 in
theorem wd_1867 : (Cond.selects RX10 yX10_share yX10_share) ∈ TB := TB_8 (i := 105) rfl rfl
set_option maxRecDepth 4000 in
theorem wd_1868 : (Cond.code yX10_share cX10_share 5 (some .int)) ∈ TB := TB_8 (i := 106) rfl rfl
set_option maxRecDepth 4000 in
theorem wd_1869 : (Cond.methodLink RL 152 yX10_wouldPlay) ∈ TB := TB_8 (i := 107) rfl rfl
set_option maxRecDepth 4000 in
theorem wd_1870 : (Cond.instanceMethod yX10_wouldPlay) ∈ TB := TB_8 (i := 108) rfl rfl
set_option maxRecDepth 4000 in
theorem wd_1871 : (Cond.selects RX10 yX10_wouldPlay yX10_wouldPlay) ∈ TB := TB_8 (i := 109) rfl rfl
set_option maxRecDepth 4000 in
theorem wd_1872 : (Cond.code yX10_wouldPlay cX10_wouldPlay 6 (some .int)) ∈ TB := TB_8 (i := 110) rfl rfl
set_option maxRecDepth 4000 in
theorem wd_1873 : (Cond.methodLink RL 156 yX10_wouldClaim) ∈ TB := TB_8 (i := 111) rfl rfl
set_option maxRecDepth 4000 in
theorem wd_1874 : (Cond.instanceMethod yX10_wouldClaim) ∈ TB := TB_8 (i := 112) rfl rfl
set_option maxRecDepth 4000 in
theorem wd_1875 : (Cond.selects RX10 yX10_wouldClaim yX10_wouldClaim) ∈ TB := TB_8 (i := 113) rfl rfl
set_option maxRecDepth 4000 in
theorem wd_1876 : (Cond.code yX10_wouldClaim cX10_wouldClaim 4 (some .int)) ∈ TB := TB_8 (i := 114) rfl rfl
set_option maxRecDepth 4000 in
theorem wd_1877 : (Cond.methodLink RL 160 yX10_bestClaim) ∈ TB := TB_8 (i := 115) rfl rfl
set_option maxRecDepth 4000 in
theorem wd_1878 : (Cond.instanceMethod yX10_bestClaim) ∈ TB := TB_8 (i := 116) rfl rfl
set_option maxRecDepth 4000 in
theorem wd_1879 : (Cond.selects RX10 yX10_bestClaim yX10_bestClaim) ∈ TB := TB_8 (i := 117) rfl rfl
set_option maxRecDepth 4000 in
theorem wd_1880 : (Cond.code yX10_bestClaim cX10_bestClaim 7 (some .int)) ∈ TB := TB_8 (i := 118) rfl rfl
set_option maxRecDepth 4000 in
theorem wd_1881 : (Cond.methodLink RL 164 yX10_claimant) ∈ TB := TB_8 (i := 119) rfl rfl
set_option maxRecDepth 4000 in
theorem wd_1882 : (Cond.instanceMethod yX10_claimant) ∈ TB := TB_8 (i := 120) rfl rfl
set_option maxRecDepth 4000 in
theorem wd_1883 : (Cond.selects RX10 yX10_claimant yX10_claimant) ∈ TB := TB_8 (i := 121) rfl rfl
set_option maxRecDepth 4000 in
theorem wd_1884 : (Cond.code yX10_claimant cX10_claimant 7 (some .int)) ∈ TB := TB_8 (i := 122) rfl rfl
set_option maxRecDepth 4000 in
theorem wd_1885 : (Cond.methodLink RL 168 yX10_wouldPart) ∈ TB := TB_8 (i := 123) rfl rfl
set_option maxRecDepth 4000 in
theorem wd_1886 : (Cond.instanceMethod yX10_wouldPart) ∈ TB := TB_8 (i := 124) rfl rfl
set_option maxRecDepth 4000 in
theorem wd_1887 : (Cond.selects RX10 yX10_wouldPart yX10_wouldPart) ∈ TB := TB_8 (i := 125) rfl rfl
set_option maxRecDepth 4000 in
theorem wd_1888 : (Cond.code yX10_wouldPart cX10_wouldPart 4 (some .int)) ∈ TB := TB_8 (i := 126) rfl rfl
set_option maxRecDepth 4000 in
theorem wd_1889 : (Cond.methodLink RL 173 yX10_gain) ∈ TB := TB_8 (i := 127) rfl rfl
set_option maxRecDepth 4000 in
theorem wd_1890 : (Cond.instanceMethod yX10_gain) ∈ TB := TB_8 (i := 128) rfl rfl
set_option maxRecDepth 4000 in
theorem wd_1891 : (Cond.selects RX10 yX10_gain yX10_gain) ∈ TB := TB_8 (i := 129) rfl rfl
set_option maxRecDepth 4000 in
theorem wd_1892 : (Cond.code yX10_gain cX10_gain 10 (some .int)) ∈ TB := TB_8 (i := 130) rfl rfl
set_option maxRecDepth 4000 in
theorem wd_1893 : (Cond.constant RX10 390 (-1000000000)) ∈ TB := TB_8 (i := 131) rfl rfl
set_option maxRecDepth 4000 in
theorem wd_1894 : (Cond.methodLink RX10 391 yX10_paidTo) ∈ TB := TB_8 (i := 132) rfl rfl
set_option maxRecDepth 4000 in
theorem wd_1896 : (Cond.instanceMethod yX10_paidTo) ∈ TB := TB_8 (i := 134) rfl rfl
set_option maxRecDepth 4000 in
theorem wd_1897 : (Cond.code yX10_paidTo cX10_paidTo 7 (some .int)) ∈ TB := TB_8 (i := 135) rfl rfl
set_option maxRecDepth 4000 in
theorem wd_1898 : (Cond.methodLink RX10 394 yX10_lends) ∈ TB := TB_8 (i := 136) rfl rfl
set_option maxRecDepth 4000 in
theorem wd_1900 : (Cond.instanceMethod yX10_lends) ∈ TB := TB_8 (i := 138) rfl rfl
set_option maxRecDepth 4000 in
theorem wd_1901 : (Cond.code yX10_lends cX10_lends 4 none) ∈ TB := TB_8 (i := 139) rfl rfl
set_option maxRecDepth 4000 in
theorem wd_1902 : (Cond.methodLink RX10 397 yX10_back) ∈ TB := TB_8 (i := 140) rfl rfl
set_option maxRecDepth 4000 in
theorem wd_1904 : (Cond.instanceMethod yX10_back) ∈ TB := TB_8 (i := 142) rfl rfl
set_option maxRecDepth 4000 in
theorem wd_1905 : (Cond.code yX10_back cX10_back 2 none) ∈ TB := TB_8 (i := 143) rfl rfl
set_option maxRecDepth 4000 in
theorem wd_1906 : (Cond.methodLink RL 177 yX10_pairs) ∈ TB := TB_8 (i := 144) rfl rfl
set_option maxRecDepth 4000 in
theorem wd_1907 : (Cond.instanceMethod yX10_pairs) ∈ TB := TB_8 (i := 145) rfl rfl
set_option maxRecDepth 4000 in
theorem wd_1908 : (Cond.selects RX10 yX10_pairs yX10_pairs) ∈ TB := TB_8 (i := 146) rfl rfl
set_option maxRecDepth 4000 in
theorem wd_1909 : (Cond.code yX10_pairs cX10_pairs 8 (some .int)) ∈ TB := TB_8 (i := 147) rfl rfl
set_option maxRecDepth 4000 in
theorem wd_1910 : (Cond.methodLink RL 181 yX10_most) ∈ TB := TB_8 (i := 148) rfl rfl
set_option maxRecDepth 4000 in
theorem wd_1911 : (Cond.instanceMethod yX10_most) ∈ TB := TB_8 (i := 149) rfl rfl
set_option maxRecDepth 4000 in
theorem wd_1912 : (Cond.selects RX10 yX10_most yX10_most) ∈ TB := TB_8 (i := 150) rfl rfl
set_option maxRecDepth 4000 in
theorem wd_1913 : (Cond.code yX10_most cX10_most 5 (some .int)) ∈ TB := TB_8 (i := 151) rfl rfl
set_option maxRecDepth 4000 in
theorem wd_1914 : (Cond.methodLink RX10 400 yX10_paidFor) ∈ TB := TB_8 (i := 152) rfl rfl
set_option maxRecDepth 4000 in
theorem wd_1916 : (Cond.instanceMethod yX10_paidFor) ∈ TB := TB_8 (i := 154) rfl rfl
set_option maxRecDepth 4000 in
theorem wd_1917 : (Cond.code yX10_paidFor cX10_paidFor 3 (some .int)) ∈ TB := TB_8 (i := 155) rfl rfl
set_option maxRecDepth 4000 in
theorem wd_1918 : (Cond.methodLink RL 185 yX10_ranked) ∈ TB := TB_8 (i := 156) rfl rfl
set_option maxRecDepth 4000 in
theorem wd_1919 : (Cond.instanceMethod yX10_ranked) ∈ TB := TB_8 (i := 157) rfl rfl
set_option maxRecDepth 4000 in
theorem wd_1920 : (Cond.selects RX10 yX10_ranked yX10_ranked) ∈ TB := TB_8 (i := 158) rfl rfl
set_option maxRecDepth 4000 in
theorem wd_1921 : (Cond.code yX10_ranked cX10_ranked 5 (some .int)) ∈ TB := TB_8 (i := 159) rfl rfl
set_option maxRecDepth 4000 in
theorem wd_1922 : (Cond.methodLink RL 190 yX10_across) ∈ TB := TB_8 (i := 160) rfl rfl
set_option maxRecDepth 4000 in
theorem wd_1923 : (Cond.instanceMethod yX10_across) ∈ TB := TB_8 (i := 161) rfl rfl
set_option maxRecDepth 4000 in
theorem wd_1924 : (Cond.selects RX10 yX10_across yX10_across) ∈ TB := TB_8 (i := 162) rfl rfl
set_option maxRecDepth 4000 in
theorem wd_1925 : (Cond.code yX10_across cX10_across 4 (some .int)) ∈ TB := TB_8 (i := 163) rfl rfl
set_option maxRecDepth 4000 in
theorem wd_1926 : (Cond.methodLink RX10 403 yX10_paidOver) ∈ TB := TB_8 (i := 164) rfl rfl
set_option maxRecDepth 4000 in
theorem wd_1928 : (Cond.instanceMethod yX10_paidOver) ∈ TB := TB_8 (i := 166) rfl rfl
set_option maxRecDepth 4000 in
theorem wd_1929 : (Cond.code yX10_paidOver cX10_paidOver 5 (some .int)) ∈ TB := TB_8 (i := 167) rfl rfl
set_option maxRecDepth 4000 in
theorem wd_1930 : (Cond.methodLink RL 206 yX10_net) ∈ TB := TB_8 (i := 168) rfl rfl
set_option maxRecDepth 4000 in
theorem wd_1931 : (Cond.instanceMethod yX10_net) ∈ TB := TB_8 (i := 169) rfl rfl
set_option maxRecDepth 4000 in
theorem wd_1932 : (Cond.selects RX10 yX10_net yX10_net) ∈ TB := TB_8 (i := 170) rfl rfl
set_option maxRecDepth 4000 in
theorem wd_1933 : (Cond.code yX10_net cX10_net 2 (some .int)) ∈ TB := TB_8 (i := 171) rfl rfl
set_option maxRecDepth 4000 in
theorem wd_1934 : (Cond.methodLink RX10 406 yX10_netOf) ∈ TB := TB_8 (i := 172) rfl rfl
set_option maxRecDepth 4000 in
theorem wd_1936 : (Cond.instanceMethod yX10_netOf) ∈ TB := TB_8 (i := 174) rfl rfl
set_option maxRecDepth 4000 in
theorem wd_1937 : (Cond.code yX10_netOf cX10_netOf 4 (some .int)) ∈ TB := TB_8 (i := 175) rfl rfl
set_option maxRecDepth 4000 in
theorem wd_1938 : (Cond.methodLink RL 210 yX10_extreme) ∈ TB := TB_8 (i := 176) rfl rfl
set_option maxRecDepth 4000 in
theorem wd_1939 : (Cond.instanceMethod yX10_extreme) ∈ TB := TB_8 (i := 177) rfl rfl
set_option maxRecDepth 4000 in
theorem wd_1940 : (Cond.selects RX10 yX10_extreme yX10_extreme) ∈ TB := TB_8 (i := 178) rfl rfl
set_option maxRecDepth 4000 in
theorem wd_1941 : (Cond.code yX10_extreme cX10_extreme 4 (some .int)) ∈ TB := TB_8 (i := 179) rfl rfl
set_option maxRecDepth 4000 in
theorem wd_1942 : (Cond.methodLink RL 194 yX10_idle) ∈ TB := TB_8 (i := 180) rfl rfl
set_option maxRecDepth 4000 in
theorem wd_1943 : (Cond.instanceMethod yX10_idle) ∈ TB := TB_8 (i := 181) rfl rfl
set_option maxRecDepth 4000 in
theorem wd_1944 : (Cond.selects RX10 yX10_idle yX10_idle) ∈ TB := TB_8 (i := 182) rfl rfl
set_option maxRecDepth 4000 in
theorem wd_1945 : (Cond.code yX10_idle cX10_idle 5 (some .int)) ∈ TB := TB_8 (i := 183) rfl rfl
set_option maxRecDepth 4000 in
theorem wd_1946 : (Cond.methodLink RL 202 yX10_bestLand) ∈ TB := TB_8 (i := 184) rfl rfl
set_option maxRecDepth 4000 in
theorem wd_1947 : (Cond.instanceMethod yX10_bestLand) ∈ TB := TB_8 (i := 185) rfl rfl
set_option maxRecDepth 4000 in
theorem wd_1948 : (Cond.selects RX10 yX10_bestLand yX10_bestLand) ∈ TB := TB_8 (i := 186) rfl rfl
set_option maxRecDepth 4000 in
theorem wd_1949 : (Cond.code yX10_bestLand cX10_bestLand 9 (some .int)) ∈ TB := TB_8 (i := 187) rfl rfl
set_option maxRecDepth 4000 in
theorem wd_1950 : (Cond.methodLink RL 214 yX10_round) ∈ TB := TB_8 (i := 188) rfl rfl
set_option maxRecDepth 4000 in
theorem wd_1951 : (Cond.instanceMethod yX10_round) ∈ TB := TB_8 (i := 189) rfl rfl
set_option maxRecDepth 4000 in
theorem wd_1952 : (Cond.selects RX10 yX10_round yX10_round) ∈ TB := TB_8 (i := 190) rfl rfl
set_option maxRecDepth 4000 in
theorem wd_1953 : (Cond.code yX10_round cX10_round 5 (some .int)) ∈ TB := TB_8 (i := 191) rfl rfl
set_option maxRecDepth 4000 in
theorem wd_1954 : (Cond.methodLink RX10 409 yX10_toPlayersOf) ∈ TB := TB_8 (i := 192) rfl rfl
set_option maxRecDepth 4000 in
theorem wd_1956 : (Cond.instanceMethod yX10_toPlayersOf) ∈ TB := TB_8 (i := 194) rfl rfl
set_option maxRecDepth 4000 in
theorem wd_1957 : (Cond.code yX10_toPlayersOf cX10_toPlayersOf 7 (some .int)) ∈ TB := TB_8 (i := 195) rfl rfl
set_option maxRecDepth 4000 in
theorem wd_1958 : (Cond.methodLink RL 218 yX10_bestTerms) ∈ TB := TB_8 (i := 196) rfl rfl
set_option maxRecDepth 4000 in
theorem wd_1959 : (Cond.instanceMethod yX10_bestTerms) ∈ TB := TB_8 (i := 197) rfl rfl
set_option maxRecDepth 4000 in
theorem wd_1960 : (Cond.selects RX10 yX10_bestTerms yX10_bestTerms) ∈ TB := TB_8 (i := 198) rfl rfl
set_option maxRecDepth 4000 in
theorem wd_1961 : (Cond.code yX10_bestTerms cX10_bestTerms 7 (some .int)) ∈ TB := TB_8 (i := 199) rfl rfl
set_option maxRecDepth 4000 in
theorem wd_1962 : (Cond.methodLink RL 222 yX10_unknown) ∈ TB := TB_8 (i := 200) rfl rfl
set_option maxRecDepth 4000 in
theorem wd_1963 : (Cond.instanceMethod yX10_unknown) ∈ TB := TB_8 (i := 201) rfl rfl
set_option maxRecDepth 4000 in
theorem wd_1964 : (Cond.selects RX10 yX10_unknown yX10_unknown) ∈ TB := TB_8 (i := 202) rfl rfl
set_option maxRecDepth 4000 in
theorem wd_1965 : (Cond.code yX10_unknown cX10_unknown 6 (some .int)) ∈ TB := TB_8 (i := 203) rfl rfl
set_option maxRecDepth 4000 in
theorem wd_1966 : (Cond.methodLink RL 226 yX10_statement) ∈ TB := TB_8 (i := 204) rfl rfl
set_option maxRecDepth 4000 in
theorem wd_1967 : (Cond.instanceMethod yX10_statement) ∈ TB := TB_8 (i := 205) rfl rfl
set_option maxRecDepth 4000 in
theorem wd_1968 : (Cond.selects RX10 yX10_statement yX10_statement) ∈ TB := TB_8 (i := 206) rfl rfl
set_option maxRecDepth 4000 in
theorem wd_1969 : (Cond.code yX10_statement cX10_statement 6 (some .int)) ∈ TB := TB_8 (i := 207) rfl rfl
set_option maxRecDepth 4000 in
theorem wd_1970 : (Cond.methodLink RL 230 yX10_moveGain) ∈ TB := TB_8 (i := 208) rfl rfl
set_option maxRecDepth 4000 in
theorem wd_1971 : (Cond.instanceMethod yX10_moveGain) ∈ TB := TB_8 (i := 209) rfl rfl
set_option maxRecDepth 4000 in
theorem wd_1972 : (Cond.selects RX10 yX10_moveGain yX10_moveGain) ∈ TB := TB_8 (i := 210) rfl rfl
set_option maxRecDepth 4000 in
theorem wd_1973 : (Cond.code yX10_moveGain cX10_moveGain 3 (some .int)) ∈ TB := TB_8 (i := 211) rfl rfl
set_option maxRecDepth 4000 in
theorem wd_1974 : (Cond.methodLink RX10 412 yX10_roundOf) ∈ TB := TB_8 (i := 212) rfl rfl
set_option maxRecDepth 4000 in
theorem wd_1976 : (Cond.instanceMethod yX10_roundOf) ∈ TB := TB_8 (i := 214) rfl rfl
set_option maxRecDepth 4000 in
theorem wd_1977 : (Cond.code yX10_roundOf cX10_roundOf 7 (some .int)) ∈ TB := TB_8 (i := 215) rfl rfl
set_option maxRecDepth 4000 in
theorem wd_1978 : (Cond.methodLink RL 234 yX10_bestHome) ∈ TB := TB_8 (i := 216) rfl rfl
set_option maxRecDepth 4000 in
theorem wd_1979 : (Cond.instanceMethod yX10_bestHome) ∈ TB := TB_8 (i := 217) rfl rfl
set_option maxRecDepth 4000 in
theorem wd_1980 : (Cond.selects RX10 yX10_bestHome yX10_bestHome) ∈ TB := TB_8 (i := 218) rfl rfl
set_option maxRecDepth 4000 in
theorem wd_1981 : (Cond.code yX10_bestHome cX10_bestHome 5 (some .int)) ∈ TB := TB_8 (i := 219) rfl rfl
set_option maxRecDepth 4000 in
theorem wd_1982 : (Cond.methodLink RL 238 yX10_answers) ∈ TB := TB_8 (i := 220) rfl rfl
set_option maxRecDepth 4000 in
theorem wd_1983 : (Cond.instanceMethod yX10_answers) ∈ TB := TB_8 (i := 221) rfl rfl
set_option maxRecDepth 4000 in
theorem wd_1984 : (Cond.selects RX10 yX10_answers yX10_answers) ∈ TB := TB_8 (i := 222) rfl rfl
set_option maxRecDepth 4000 in
theorem wd_1985 : (Cond.code yX10_answers cX10_answers 4 (some .int)) ∈ TB := TB_8 (i := 223) rfl rfl
set_option maxRecDepth 4000 in
theorem wd_1986 : (Cond.methodLink RL 242 yX10_poorest) ∈ TB := TB_8 (i := 224) rfl rfl
set_option maxRecDepth 4000 in
theorem wd_1987 : (Cond.instanceMethod yX10_poorest) ∈ TB := TB_8 (i := 225) rfl rfl
set_option maxRecDepth 4000 in
theorem wd_1988 : (Cond.selects RX10 yX10_poorest yX10_poorest) ∈ TB := TB_8 (i := 226) rfl rfl
set_option maxRecDepth 4000 in
theorem wd_1989 : (Cond.code yX10_poorest cX10_poorest 5 (some .int)) ∈ TB := TB_8 (i := 227) rfl rfl
set_option maxRecDepth 4000 in
theorem wd_1990 : (Cond.methodLink RL 246 yX10_openSeats) ∈ TB := TB_8 (i := 228) rfl rfl
set_option maxRecDepth 4000 in
theorem wd_1991 : (Cond.instanceMethod yX10_openSeats) ∈ TB := TB_8 (i := 229) rfl rfl
set_option maxRecDepth 4000 in
theorem wd_1992 : (Cond.selects RX10 yX10_openSeats yX10_openSeats) ∈ TB := TB_8 (i := 230) rfl rfl
set_option maxRecDepth 4000 in
theorem wd_1993 : (Cond.code yX10_openSeats cX10_openSeats 4 (some .int)) ∈ TB := TB_8 (i := 231) rfl rfl
set_option maxRecDepth 4000 in
theorem wd_1994 : (Cond.methodLink RL 250 yX10_late) ∈ TB := TB_8 (i := 232) rfl rfl
set_option maxRecDepth 4000 in
theorem wd_1995 : (Cond.instanceMethod yX10_late) ∈ TB := TB_8 (i := 233) rfl rfl
set_option maxRecDepth 4000 in
theorem wd_1996 : (Cond.selects RX10 yX10_late yX10_late) ∈ TB := TB_8 (i := 234) rfl rfl
set_option maxRecDepth 4000 in
theorem wd_1997 : (Cond.code yX10_late cX10_late 5 (some .int)) ∈ TB := TB_8 (i := 235) rfl rfl
set_option maxRecDepth 4000 in
theorem wd_1998 : (Cond.methodLink RL 254 yX10_split) ∈ TB := TB_8 (i := 236) rfl rfl
set_option maxRecDepth 4000 in
theorem wd_1999 : (Cond.instanceMethod yX10_split) ∈ TB := TB_8 (i := 237) rfl rfl
set_option maxRecDepth 4000 in
theorem wd_2000 : (Cond.selects RX10 yX10_split yX10_split) ∈ TB := TB_8 (i := 238) rfl rfl
set_option maxRecDepth 4000 in
theorem wd_2001 : (Cond.code yX10_split cX10_split 8 (some .int)) ∈ TB := TB_8 (i := 239) rfl rfl
set_option maxRecDepth 4000 in
theorem wd_2002 : (Cond.methodLink RL 258 yX10_dearest) ∈ TB := TB_9 (i := 0) rfl rfl
set_option maxRecDepth 4000 in
theorem wd_2003 : (Cond.instanceMethod yX10_dearest) ∈ TB := TB_9 (i := 1) rfl rfl
set_option maxRecDepth 4000 in
theorem wd_2004 : (Cond.selects RX10 yX10_dearest yX10_dearest) ∈ TB := TB_9 (i := 2) rfl rfl
set_option maxRecDepth 4000 in
theorem wd_2005 : (Cond.code yX10_dearest cX10_dearest 4 (some .int)) ∈ TB := TB_9 (i := 3) rfl rfl
set_option maxRecDepth 4000 in
theorem wd_2006 : (Cond.methodLink RL 262 yX10_reached) ∈ TB := TB_9 (i := 4) rfl rfl
set_option maxRecDepth 4000 in
theorem wd_2007 : (Cond.instanceMethod yX10_reached) ∈ TB := TB_9 (i := 5) rfl rfl
set_option maxRecDepth 4000 in
theorem wd_2008 : (Cond.selects RX10 yX10_reached yX10_reached) ∈ TB := TB_9 (i := 6) rfl rfl
set_option maxRecDepth 4000 in
theorem wd_2009 : (Cond.code yX10_reached cX10_reached 5 (some .int)) ∈ TB := TB_9 (i := 7) rfl rfl
set_option maxRecDepth 4000 in
theorem wd_2010 : (Cond.methodLink RL 266 yX10_money) ∈ TB := TB_9 (i := 8) rfl rfl
set_option maxRecDepth 4000 in
theorem wd_2011 : (Cond.instanceMethod yX10_money) ∈ TB := TB_9 (i := 9) rfl rfl
set_option maxRecDepth 4000 in
theorem wd_2012 : (Cond.selects RX10 yX10_money yX10_money) ∈ TB := TB_9 (i := 10) rfl rfl
set_option maxRecDepth 4000 in
theorem wd_2013 : (Cond.code yX10_money cX10_money 2 (some .int)) ∈ TB := TB_9 (i := 11) rfl rfl
set_option maxRecDepth 4000 in
theorem wd_2014 : (Cond.methodLink RX10 415 yX10_sumIn) ∈ TB := TB_9 (i := 12) rfl rfl
set_option maxRecDepth 4000 in
theorem wd_2016 : (Cond.instanceMethod yX10_sumIn) ∈ TB := TB_9 (i := 14) rfl rfl
set_option maxRecDepth 4000 in
theorem wd_2017 : (Cond.code yX10_sumIn cX10_sumIn 5 (some .int)) ∈ TB := TB_9 (i := 15) rfl rfl
set_option maxRecDepth 4000 in
theorem wd_2018 : (Cond.methodLink RL 270 yX10_count) ∈ TB := TB_9 (i := 16) rfl rfl
set_option maxRecDepth 4000 in
theorem wd_2019 : (Cond.instanceMethod yX10_count) ∈ TB := TB_9 (i := 17) rfl rfl
set_option maxRecDepth 4000 in
theorem wd_2020 : (Cond.selects RX10 yX10_count yX10_count) ∈ TB := TB_9 (i := 18) rfl rfl
set_option maxRecDepth 4000 in
theorem wd_2021 : (Cond.code yX10_count cX10_count 2 (some .int)) ∈ TB := TB_9 (i := 19) rfl rfl
set_option maxRecDepth 4000 in
theorem wd_2022 : (Cond.methodLink RX10 418 yX10_openAll) ∈ TB := TB_9 (i := 20) rfl rfl
set_option maxRecDepth 4000 in
theorem wd_2024 : (Cond.instanceMethod yX10_openAll) ∈ TB := TB_9 (i := 22) rfl rfl
set_option maxRecDepth 4000 in
theorem wd_2025 : (Cond.code yX10_openAll cX10_openAll 3 (some .int)) ∈ TB := TB_9 (i := 23) rfl rfl
set_option maxRecDepth 4000 in
theorem wd_2042 : (Cond.fieldLink RJ0 9 "java/lang/String" "value" "[B") ∈ TB := TB_9 (i := 40) rfl rfl
set_option maxRecDepth 4000 in
theorem wd_2043 : (Cond.fieldLink RJ0 15 "java/lang/String" "coder" "B") ∈ TB := TB_9 (i := 41) rfl rfl
