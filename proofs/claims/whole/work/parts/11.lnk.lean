/-! what the links of calls say -/
theorem mem_wl {i : Nat} {w : Cond} (h : lw_tbl[i]? = some w) (hg : goodWord w = true) : w ∈ ip_ws := List.mem_filter.mpr ⟨List.mem_of_getElem? h, hg⟩
/-- places in lw_tbl: static or instanceMethod, selects, initialized -/
def ip_pi : List Nat := [75, 386, 406, 439, 264, 463, 511, 499, 578, 570, 537, 544, 562, 338, 712, 721, 717, 82, 394, 170, 558, 652, 146, 450, 528, 138, 443, 664, 582, 586, 481, 485, 503, 604, 628, 636, 689, 695, 702, 69, 455, 468, 478, 490, 494, 508, 516, 520, 524, 534, 549, 555, 567, 575, 61, 378, 382, 398, 402, 410, 414, 424, 431, 435, 592, 596, 608, 612, 620, 624, 632, 640, 644, 648, 656, 660, 681, 685, 698, 708, 725, 729, 601, 617, 670, 677, 390, 428, 421, 735, 959, 972, 1081, 951, 955, 963, 967, 976, 981, 988, 993, 1007, 1015, 1019, 1031, 1023, 1011, 1055, 1059, 1065, 1069, 1051, 1035, 1047, 1039, 1043, 1027, 1003, 997, 1072, 1076, 1084, 1093, 1088, 1097, 1101, 1105, 1109, 1113, 1117, 1121, 1130, 1125, 1134, 1148, 1144, 1139, 1156, 1151, 1168, 1164, 1159, 1172, 1176, 459, 106, 0]
def ip_ps : List Nat := [0, 387, 407, 440, 0, 464, 512, 500, 579, 571, 538, 545, 563, 0, 713, 18, 17, 0, 395, 0, 559, 653, 0, 451, 529, 0, 444, 665, 583, 587, 482, 486, 504, 605, 629, 637, 690, 16, 703, 0, 456, 0, 1, 2, 3, 4, 5, 6, 7, 8, 9, 10, 11, 12, 0, 379, 383, 399, 403, 411, 415, 425, 432, 436, 593, 597, 609, 613, 621, 625, 633, 641, 645, 649, 657, 661, 682, 686, 699, 709, 726, 730, 13, 14, 15, 0, 0, 0, 0, 0, 0, 19, 37, 952, 956, 964, 968, 977, 982, 989, 994, 21, 23, 24, 27, 25, 22, 33, 34, 35, 36, 32, 28, 31, 29, 30, 26, 20, 998, 1073, 1077, 1085, 38, 1089, 1098, 1102, 1106, 1110, 1114, 1118, 1122, 0, 1126, 1135, 40, 39, 1140, 41, 1152, 43, 42, 1160, 1173, 1177, 0, 0, 0]
def ip_pn : List Nat := [47, 47, 47, 47, 53, 53, 53, 53, 53, 53, 53, 53, 53, 54, 54, 54, 54, 48, 48, 52, 52, 52, 51, 51, 51, 50, 50, 50, 50, 50, 50, 50, 50, 50, 50, 50, 50, 50, 50, 46, 46, 46, 46, 46, 46, 46, 46, 46, 46, 46, 46, 46, 46, 46, 45, 45, 45, 45, 45, 45, 45, 45, 45, 45, 45, 45, 45, 45, 45, 45, 45, 45, 45, 45, 45, 45, 45, 45, 45, 45, 45, 45, 45, 45, 45, 45, 45, 45, 45, 55, 55, 55, 55, 55, 55, 55, 55, 55, 55, 55, 55, 55, 55, 55, 55, 55, 55, 55, 55, 55, 55, 55, 55, 55, 55, 55, 55, 55, 55, 55, 55, 55, 55, 55, 55, 55, 55, 55, 55, 55, 55, 55, 55, 55, 55, 55, 55, 55, 55, 55, 55, 55, 55, 55, 49, 49, 44]
def ip_mC (m : Nat) : Bool := match ip_M[m]?, ip_pi[m]?, ip_ps[m]?, ip_pn[m]? with
  | some q, some a, some b, some c => plainName q.2.1.cls && decide (q.2.1.cls = ip_own q.1) && decide (q.2.1.cls ≠ "java/lang/invoke/MethodHandle") && decide (q.2.1.cls ≠ "java/lang/invoke/VarHandle") && decide (q.2.2.2.1 ≤ 40) && decide (lw_tbl[c]? = some (.initialized q.2.1.cls)) && (m == mlaw || decide (lw_tbl[a]? = some (.static q.2.1)) || (decide (lw_tbl[a]? = some (.instanceMethod q.2.1)) && ((decide (q.2.1.name = "<init>") && decide (q.2.2.2.2 = none)) || decide (lw_tbl[b]? = some (.selects q.2.1.cls q.2.1 q.2.1)))))
  | _, _, _, _ => false
theorem ip_mA : (List.range 147).all ip_mC = true := by decide +kernel
set_option maxRecDepth 20000 in
theorem cd_0 : tables_1[32]? = some (.code yX0_init cX0_init 2 none) := rfl
set_option maxRecDepth 20000 in
theorem cd_1 : tables_1[344]? = some (.code yX0_hasProgram cX0_hasProgram 2 (some .boolean)) := rfl
set_option maxRecDepth 20000 in
theorem cd_2 : tables_1[364]? = some (.code yX0_hasAccount cX0_hasAccount 3 (some .boolean)) := rfl
set_option maxRecDepth 20000 in
theorem cd_3 : tables_1[397]? = some (.code yX0_programOf cX0_programOf 4 (some .int)) := rfl
set_option maxRecDepth 20000 in
theorem cd_4 : tables_1[221]? = some (.code yX1_init cX1_init 1 none) := rfl
set_option maxRecDepth 20000 in
theorem cd_5 : tables_1[421]? = some (.code yX1_open cX1_open 6 none) := rfl
set_option maxRecDepth 20000 in
theorem cd_6 : tables_1[469]? = some (.code yX1_push cX1_push 3 (some .int)) := rfl
set_option maxRecDepth 20000 in
theorem cd_7 : tables_1[457]? = some (.code yX1_pop cX1_pop 1 (some .long)) := rfl
set_option maxRecDepth 20000 in
theorem cd_8 : tables_1[536]? = some (.code yX1_top cX1_top 1 (some .long)) := rfl
set_option maxRecDepth 20000 in
theorem cd_9 : tables_1[528]? = some (.code yX1_pushCopy cX1_pushCopy 3 (some .int)) := rfl
set_option maxRecDepth 20000 in
theorem cd_10 : tables_1[495]? = some (.code yX1_pushMath cX1_pushMath 7 (some .int)) := rfl
set_option maxRecDepth 20000 in
theorem cd_11 : tables_1[502]? = some (.code yX1_jump cX1_jump 4 (some .int)) := rfl
set_option maxRecDepth 20000 in
theorem cd_12 : tables_1[520]? = some (.code yX1_end cX1_end 2 (some .int)) := rfl
set_option maxRecDepth 20000 in
theorem cd_13 : tables_1[295]? = some (.code yX2_init cX2_init 1 none) := rfl
set_option maxRecDepth 20000 in
theorem cd_14 : tables_1[670]? = some (.code yX2_writeStep cX2_writeStep 4 none) := rfl
set_option maxRecDepth 20000 in
theorem cd_15 : tables_1[678]? = some (.code yX2_addSign cX2_addSign 2 none) := rfl
set_option maxRecDepth 20000 in
theorem cd_16 : tables_1[674]? = some (.code yX2_addNumber cX2_addNumber 7 none) := rfl
set_option maxRecDepth 20000 in
theorem cd_17 : tables_1[39]? = some (.code yX3_init cX3_init 1 none) := rfl
set_option maxRecDepth 20000 in
theorem cd_18 : tables_1[352]? = some (.code yX3_add cX3_add 5 (some .boolean)) := rfl
set_option maxRecDepth 20000 in
theorem cd_19 : tables_1[127]? = some (.code yX4_init cX4_init 1 none) := rfl
set_option maxRecDepth 20000 in
theorem cd_20 : tables_1[516]? = some (.code yX4_add cX4_add 6 none) := rfl
set_option maxRecDepth 20000 in
theorem cd_21 : tables_1[610]? = some (.code yX4_numberOf cX4_numberOf 5 (some .int)) := rfl
set_option maxRecDepth 20000 in
theorem cd_22 : tables_1[103]? = some (.code yX5_init cX5_init 1 none) := rfl
set_option maxRecDepth 20000 in
theorem cd_23 : tables_1[408]? = some (.code yX5_clear cX5_clear 1 none) := rfl
set_option maxRecDepth 20000 in
theorem cd_24 : tables_1[486]? = some (.code yX5_add cX5_add 5 none) := rfl
set_option maxRecDepth 20000 in
theorem cd_25 : tables_1[95]? = some (.code yX6_init cX6_init 1 none) := rfl
set_option maxRecDepth 20000 in
theorem cd_26 : tables_1[401]? = some (.code yX6_ask cX6_ask 7 none) := rfl
set_option maxRecDepth 20000 in
theorem cd_27 : tables_1[622]? = some (.code yX6_askAgain cX6_askAgain 2 none) := rfl
set_option maxRecDepth 20000 in
theorem cd_28 : tables_1[540]? = some (.code yX6_endWell cX6_endWell 4 none) := rfl
set_option maxRecDepth 20000 in
theorem cd_29 : tables_1[544]? = some (.code yX6_endBadly cX6_endBadly 4 none) := rfl
set_option maxRecDepth 20000 in
theorem cd_30 : tables_1[439]? = some (.code yX6_canPay cX6_canPay 2 (some .boolean)) := rfl
set_option maxRecDepth 20000 in
theorem cd_31 : tables_1[443]? = some (.code yX6_beginStep cX6_beginStep 5 none) := rfl
set_option maxRecDepth 20000 in
theorem cd_32 : tables_1[461]? = some (.code yX6_endStep cX6_endStep 4 none) := rfl
set_option maxRecDepth 20000 in
theorem cd_33 : tables_1[562]? = some (.code yX6_amount cX6_amount 2 (some .int)) := rfl
set_option maxRecDepth 20000 in
theorem cd_34 : tables_1[586]? = some (.code yX6_firstOfKind cX6_firstOfKind 4 (some .int)) := rfl
set_option maxRecDepth 20000 in
theorem cd_35 : tables_1[594]? = some (.code yX6_pricesOf cX6_pricesOf 9 (some .int)) := rfl
set_option maxRecDepth 20000 in
theorem cd_36 : tables_1[647]? = some (.code yX6_firstUnlike cX6_firstUnlike 4 (some .int)) := rfl
set_option maxRecDepth 20000 in
theorem cd_37 : tables_1[652]? = some (.code yX6_isLike cX6_isLike 4 (some .boolean)) := rfl
set_option maxRecDepth 20000 in
theorem cd_38 : tables_1[660]? = some (.code yX6_digestOfFirst cX6_digestOfFirst 7 (some .long)) := rfl
set_option maxRecDepth 20000 in
theorem cd_39 : tables_1[26]? = some (.code yX7_init cX7_init 2 none) := rfl
set_option maxRecDepth 20000 in
theorem cd_40 : tables_1[413]? = some (.code yX7_walk cX7_walk 4 none) := rfl
set_option maxRecDepth 20000 in
theorem cd_41 : tables_1[425]? = some (.code yX7_walkFrame cX7_walkFrame 7 (some .int)) := rfl
set_option maxRecDepth 20000 in
theorem cd_42 : tables_1[435]? = some (.code yX7_walkOp cX7_walkOp 8 (some .int)) := rfl
set_option maxRecDepth 20000 in
theorem cd_43 : tables_1[447]? = some (.code yX7_walkWithin cX7_walkWithin 12 (some .int)) := rfl
set_option maxRecDepth 20000 in
theorem cd_44 : tables_1[451]? = some (.code yX7_lookWithin cX7_lookWithin 5 (some .int)) := rfl
set_option maxRecDepth 20000 in
theorem cd_45 : tables_1[465]? = some (.code yX7_save cX7_save 2 none) := rfl
set_option maxRecDepth 20000 in
theorem cd_46 : tables_1[473]? = some (.code yX7_undo cX7_undo 2 none) := rfl
set_option maxRecDepth 20000 in
theorem cd_47 : tables_1[477]? = some (.code yX7_act cX7_act 6 (some .int)) := rfl
set_option maxRecDepth 20000 in
theorem cd_48 : tables_1[481]? = some (.code yX7_readCell cX7_readCell 6 (some .int)) := rfl
set_option maxRecDepth 20000 in
theorem cd_49 : tables_1[491]? = some (.code yX7_writeCell cX7_writeCell 7 (some .int)) := rfl
set_option maxRecDepth 20000 in
theorem cd_50 : tables_1[506]? = some (.code yX7_send cX7_send 7 (some .int)) := rfl
set_option maxRecDepth 20000 in
theorem cd_51 : tables_1[512]? = some (.code yX7_addTell cX7_addTell 4 (some .int)) := rfl
set_option maxRecDepth 20000 in
theorem cd_52 : tables_1[524]? = some (.code yX7_failWith cX7_failWith 3 (some .int)) := rfl
set_option maxRecDepth 20000 in
theorem cd_53 : tables_1[532]? = some (.code yX7_pushFunds cX7_pushFunds 4 (some .int)) := rfl
set_option maxRecDepth 20000 in
theorem cd_54 : tables_1[18]? = some (.code yX8_init cX8_init 2 none) := rfl
set_option maxRecDepth 20000 in
theorem cd_55 : tables_1[336]? = some (.code yX8_program cX8_program 1 (some .int)) := rfl
set_option maxRecDepth 20000 in
theorem cd_56 : tables_1[340]? = some (.code yX8_op cX8_op 7 (some .int)) := rfl
set_option maxRecDepth 20000 in
theorem cd_57 : tables_1[356]? = some (.code yX8_account cX8_account 1 (some .int)) := rfl
set_option maxRecDepth 20000 in
theorem cd_58 : tables_1[360]? = some (.code yX8_member cX8_member 4 (some .int)) := rfl
set_option maxRecDepth 20000 in
theorem cd_59 : tables_1[368]? = some (.code yX8_price cX8_price 4 (some .int)) := rfl
set_option maxRecDepth 20000 in
theorem cd_60 : tables_1[372]? = some (.code yX8_fund cX8_fund 6 (some .long)) := rfl
set_option maxRecDepth 20000 in
theorem cd_61 : tables_1[382]? = some (.code yX8_cell cX8_cell 3 (some .long)) := rfl
set_option maxRecDepth 20000 in
theorem cd_62 : tables_1[389]? = some (.code yX8_balance cX8_balance 2 (some .long)) := rfl
set_option maxRecDepth 20000 in
theorem cd_63 : tables_1[393]? = some (.code yX8_call cX8_call 7 (some .int)) := rfl
set_option maxRecDepth 20000 in
theorem cd_64 : tables_1[550]? = some (.code yX8_drop cX8_drop 2 (some .int)) := rfl
set_option maxRecDepth 20000 in
theorem cd_65 : tables_1[554]? = some (.code yX8_trace cX8_trace 3 (some .int)) := rfl
set_option maxRecDepth 20000 in
theorem cd_66 : tables_1[566]? = some (.code yX8_result cX8_result 2 (some .long)) := rfl
set_option maxRecDepth 20000 in
theorem cd_67 : tables_1[570]? = some (.code yX8_step cX8_step 4 (some .int)) := rfl
set_option maxRecDepth 20000 in
theorem cd_68 : tables_1[578]? = some (.code yX8_value cX8_value 3 (some .long)) := rfl
set_option maxRecDepth 20000 in
theorem cd_69 : tables_1[582]? = some (.code yX8_search cX8_search 4 (some .int)) := rfl
set_option maxRecDepth 20000 in
theorem cd_70 : tables_1[590]? = some (.code yX8_flame cX8_flame 5 (some .int)) := rfl
set_option maxRecDepth 20000 in
theorem cd_71 : tables_1[598]? = some (.code yX8_touch cX8_touch 6 (some .int)) := rfl
set_option maxRecDepth 20000 in
theorem cd_72 : tables_1[602]? = some (.code yX8_flow cX8_flow 4 (some .long)) := rfl
set_option maxRecDepth 20000 in
theorem cd_73 : tables_1[606]? = some (.code yX8_tell cX8_tell 7 (some .long)) := rfl
set_option maxRecDepth 20000 in
theorem cd_74 : tables_1[614]? = some (.code yX8_told cX8_told 3 (some .long)) := rfl
set_option maxRecDepth 20000 in
theorem cd_75 : tables_1[618]? = some (.code yX8_back cX8_back 3 (some .long)) := rfl
set_option maxRecDepth 20000 in
theorem cd_76 : tables_1[639]? = some (.code yX8_state cX8_state 1 (some .long)) := rfl
set_option maxRecDepth 20000 in
theorem cd_77 : tables_1[643]? = some (.code yX8_compare cX8_compare 3 (some .int)) := rfl
set_option maxRecDepth 20000 in
theorem cd_78 : tables_1[656]? = some (.code yX8_halves cX8_halves 8 (some .int)) := rfl
set_option maxRecDepth 20000 in
theorem cd_79 : tables_1[666]? = some (.code yX8_write cX8_write 3 (some .int)) := rfl
set_option maxRecDepth 20000 in
theorem cd_80 : tables_1[683]? = some (.code yX8_out cX8_out 2 (some .int)) := rfl
set_option maxRecDepth 20000 in
theorem cd_81 : tables_1[687]? = some (.code yX8_count cX8_count 2 (some .int)) := rfl
set_option maxRecDepth 20000 in
theorem cd_82 : tables_1[558]? = some (.code yX8_isKept cX8_isKept 2 (some .boolean)) := rfl
set_option maxRecDepth 20000 in
theorem cd_83 : tables_1[574]? = some (.code yX8_hasStep cX8_hasStep 3 (some .boolean)) := rfl
set_option maxRecDepth 20000 in
theorem cd_84 : tables_1[627]? = some (.code yX8_digestOfState cX8_digestOfState 6 (some .long)) := rfl
set_option maxRecDepth 20000 in
theorem cd_85 : tables_1[634]? = some (.code yX8_digestWith cX8_digestWith 6 (some .long)) := rfl
set_option maxRecDepth 20000 in
theorem cd_86 : tables_1[347]? = some (.code yX8_isWithin cX8_isWithin 3 (some .boolean)) := rfl
set_option maxRecDepth 20000 in
theorem cd_87 : tables_1[385]? = some (.code yX8_cellPlace cX8_cellPlace 2 (some .int)) := rfl
set_option maxRecDepth 20000 in
theorem cd_88 : tables_1[378]? = some (.code yX8_balancePlace cX8_balancePlace 1 (some .int)) := rfl
set_option maxRecDepth 20000 in
theorem cd_89 : tables_1[692]? = some (.code yX9_init cX9_init 1 none) := rfl
set_option maxRecDepth 20000 in
theorem cd_90 : tables_1[916]? = some (.code yX9_in cX9_in 6 (some .boolean)) := rfl
set_option maxRecDepth 20000 in
theorem cd_91 : tables_1[929]? = some (.code yX9_isAccount cX9_isAccount 3 (some .boolean)) := rfl
set_option maxRecDepth 20000 in
theorem cd_92 : tables_1[1038]? = some (.code yX9_isTrace cX9_isTrace 2 (some .boolean)) := rfl
set_option maxRecDepth 20000 in
theorem cd_93 : tables_1[909]? = some (.code yX9_program cX9_program 1 (some .int)) := rfl
set_option maxRecDepth 20000 in
theorem cd_94 : tables_1[913]? = some (.code yX9_op cX9_op 7 (some .int)) := rfl
set_option maxRecDepth 20000 in
theorem cd_95 : tables_1[921]? = some (.code yX9_account cX9_account 2 (some .int)) := rfl
set_option maxRecDepth 20000 in
theorem cd_96 : tables_1[925]? = some (.code yX9_member cX9_member 4 (some .int)) := rfl
set_option maxRecDepth 20000 in
theorem cd_97 : tables_1[934]? = some (.code yX9_price cX9_price 4 (some .int)) := rfl
set_option maxRecDepth 20000 in
theorem cd_98 : tables_1[939]? = some (.code yX9_fund cX9_fund 6 (some .long)) := rfl
set_option maxRecDepth 20000 in
theorem cd_99 : tables_1[946]? = some (.code yX9_cell cX9_cell 3 (some .long)) := rfl
set_option maxRecDepth 20000 in
theorem cd_100 : tables_1[951]? = some (.code yX9_balance cX9_balance 2 (some .long)) := rfl
set_option maxRecDepth 20000 in
theorem cd_101 : tables_1[964]? = some (.code yX9_enters cX9_enters 8 none) := rfl
set_option maxRecDepth 20000 in
theorem cd_102 : tables_1[972]? = some (.code yX9_undoes cX9_undoes 3 none) := rfl
set_option maxRecDepth 20000 in
theorem cd_103 : tables_1[976]? = some (.code yX9_push cX9_push 4 none) := rfl
set_option maxRecDepth 20000 in
theorem cd_104 : tables_1[988]? = some (.code yX9_pop cX9_pop 2 (some .long)) := rfl
set_option maxRecDepth 20000 in
theorem cd_105 : tables_1[980]? = some (.code yX9_leaves cX9_leaves 3 none) := rfl
set_option maxRecDepth 20000 in
theorem cd_106 : tables_1[968]? = some (.code yX9_fails cX9_fails 2 none) := rfl
set_option maxRecDepth 20000 in
theorem cd_107 : tables_1[1012]? = some (.code yX9_marks cX9_marks 6 none) := rfl
set_option maxRecDepth 20000 in
theorem cd_108 : tables_1[1016]? = some (.code yX9_maths cX9_maths 8 none) := rfl
set_option maxRecDepth 20000 in
theorem cd_109 : tables_1[1022]? = some (.code yX9_sends cX9_sends 8 none) := rfl
set_option maxRecDepth 20000 in
theorem cd_110 : tables_1[1026]? = some (.code yX9_says cX9_says 7 none) := rfl
set_option maxRecDepth 20000 in
theorem cd_111 : tables_1[1008]? = some (.code yX9_reads cX9_reads 8 none) := rfl
set_option maxRecDepth 20000 in
theorem cd_112 : tables_1[992]? = some (.code yX9_isWalked cX9_isWalked 5 (some .boolean)) := rfl
set_option maxRecDepth 20000 in
theorem cd_113 : tables_1[1004]? = some (.code yX9_does cX9_does 7 none) := rfl
set_option maxRecDepth 20000 in
theorem cd_114 : tables_1[996]? = some (.code yX9_notes cX9_notes 7 none) := rfl
set_option maxRecDepth 20000 in
theorem cd_115 : tables_1[1000]? = some (.code yX9_top cX9_top 2 (some .long)) := rfl
set_option maxRecDepth 20000 in
theorem cd_116 : tables_1[984]? = some (.code yX9_begins cX9_begins 8 none) := rfl
set_option maxRecDepth 20000 in
theorem cd_117 : tables_1[960]? = some (.code yX9_walk cX9_walk 8 none) := rfl
set_option maxRecDepth 20000 in
theorem cd_118 : tables_1[955]? = some (.code yX9_call cX9_call 7 (some .int)) := rfl
set_option maxRecDepth 20000 in
theorem cd_119 : tables_1[1030]? = some (.code yX9_drop cX9_drop 2 (some .int)) := rfl
set_option maxRecDepth 20000 in
theorem cd_120 : tables_1[1034]? = some (.code yX9_trace cX9_trace 3 (some .int)) := rfl
set_option maxRecDepth 20000 in
theorem cd_121 : tables_1[1042]? = some (.code yX9_result cX9_result 2 (some .long)) := rfl
set_option maxRecDepth 20000 in
theorem cd_122 : tables_1[1050]? = some (.code yX9_isStep cX9_isStep 3 (some .boolean)) := rfl
set_option maxRecDepth 20000 in
theorem cd_123 : tables_1[1046]? = some (.code yX9_step cX9_step 4 (some .int)) := rfl
set_option maxRecDepth 20000 in
theorem cd_124 : tables_1[1055]? = some (.code yX9_value cX9_value 3 (some .long)) := rfl
set_option maxRecDepth 20000 in
theorem cd_125 : tables_1[1059]? = some (.code yX9_search cX9_search 5 (some .int)) := rfl
set_option maxRecDepth 20000 in
theorem cd_126 : tables_1[1063]? = some (.code yX9_flame cX9_flame 10 (some .int)) := rfl
set_option maxRecDepth 20000 in
theorem cd_127 : tables_1[1067]? = some (.code yX9_touch cX9_touch 4 (some .int)) := rfl
set_option maxRecDepth 20000 in
theorem cd_128 : tables_1[1071]? = some (.code yX9_flow cX9_flow 4 (some .long)) := rfl
set_option maxRecDepth 20000 in
theorem cd_129 : tables_1[1075]? = some (.code yX9_tell cX9_tell 7 (some .long)) := rfl
set_option maxRecDepth 20000 in
theorem cd_130 : tables_1[1079]? = some (.code yX9_told cX9_told 3 (some .long)) := rfl
set_option maxRecDepth 20000 in
theorem cd_131 : tables_1[1087]? = some (.code yX9_mixed cX9_mixed 6 (some .long)) := rfl
set_option maxRecDepth 20000 in
theorem cd_132 : tables_1[1083]? = some (.code yX9_state cX9_state 5 (some .long)) := rfl
set_option maxRecDepth 20000 in
theorem cd_133 : tables_1[1092]? = some (.code yX9_back cX9_back 6 (some .long)) := rfl
set_option maxRecDepth 20000 in
theorem cd_134 : tables_1[1105]? = some (.code yX9_isUnlike cX9_isUnlike 6 (some .boolean)) := rfl
set_option maxRecDepth 20000 in
theorem cd_135 : tables_1[1101]? = some (.code yX9_lesser cX9_lesser 3 (some .int)) := rfl
set_option maxRecDepth 20000 in
theorem cd_136 : tables_1[1097]? = some (.code yX9_compare cX9_compare 5 (some .int)) := rfl
set_option maxRecDepth 20000 in
theorem cd_137 : tables_1[1113]? = some (.code yX9_digestOf cX9_digestOf 7 (some .long)) := rfl
set_option maxRecDepth 20000 in
theorem cd_138 : tables_1[1109]? = some (.code yX9_halves cX9_halves 8 (some .int)) := rfl
set_option maxRecDepth 20000 in
theorem cd_139 : tables_1[1125]? = some (.code yX9_put cX9_put 2 none) := rfl
set_option maxRecDepth 20000 in
theorem cd_140 : tables_1[1121]? = some (.code yX9_putNumber cX9_putNumber 7 none) := rfl
set_option maxRecDepth 20000 in
theorem cd_141 : tables_1[1117]? = some (.code yX9_write cX9_write 4 (some .int)) := rfl
set_option maxRecDepth 20000 in
theorem cd_142 : tables_1[1130]? = some (.code yX9_out cX9_out 2 (some .int)) := rfl
set_option maxRecDepth 20000 in
theorem cd_143 : tables_1[1134]? = some (.code yX9_count cX9_count 2 (some .int)) := rfl
set_option maxRecDepth 20000 in
theorem cd_144 : tables_1[416]? = some (.code yJ7_fill_d0a16 cJ7_fill_d0a16 5 none) := rfl
set_option maxRecDepth 20000 in
theorem cd_145 : tables_1[63]? = some (.code yJ7_fill_53178 cJ7_fill_53178 4 none) := rfl
theorem ip_mlen : ip_M.length = 147 := by decide +kernel
theorem cd_ok {m : Nat} {q : ip_I} (h : ip_M[m]? = some q) (hl : m ≠ mlaw) : Cond.code q.2.1 q.2.2.1 q.2.2.2.1 q.2.2.2.2 ∈ ip_ws := by
  match m, h, hl with
  | 0, h, _ => cases h; exact mem_ws cd_0 rfl
  | 1, h, _ => cases h; exact mem_ws cd_1 rfl
  | 2, h, _ => cases h; exact mem_ws cd_2 rfl
  | 3, h, _ => cases h; exact mem_ws cd_3 rfl
  | 4, h, _ => cases h; exact mem_ws cd_4 rfl
  | 5, h, _ => cases h; exact mem_ws cd_5 rfl
  | 6, h, _ => cases h; exact mem_ws cd_6 rfl
  | 7, h, _ => cases h; exact mem_ws cd_7 rfl
  | 8, h, _ => cases h; exact mem_ws cd_8 rfl
  | 9, h, _ => cases h; exact mem_ws cd_9 rfl
  | 10, h, _ => cases h; exact mem_ws cd_10 rfl
  | 11, h, _ => cases h; exact mem_ws cd_11 rfl
  | 12, h, _ => cases h; exact mem_ws cd_12 rfl
  | 13, h, _ => cases h; exact mem_ws cd_13 rfl
  | 14, h, _ => cases h; exact mem_ws cd_14 rfl
  | 15, h, _ => cases h; exact mem_ws cd_15 rfl
  | 16, h, _ => cases h; exact mem_ws cd_16 rfl
  | 17, h, _ => cases h; exact mem_ws cd_17 rfl
  | 18, h, _ => cases h; exact mem_ws cd_18 rfl
  | 19, h, _ => cases h; exact mem_ws cd_19 rfl
  | 20, h, _ => cases h; exact mem_ws cd_20 rfl
  | 21, h, _ => cases h; exact mem_ws cd_21 rfl
  | 22, h, _ => cases h; exact mem_ws cd_22 rfl
  | 23, h, _ => cases h; exact mem_ws cd_23 rfl
  | 24, h, _ => cases h; exact mem_ws cd_24 rfl
  | 25, h, _ => cases h; exact mem_ws cd_25 rfl
  | 26, h, _ => cases h; exact mem_ws cd_26 rfl
  | 27, h, _ => cases h; exact mem_ws cd_27 rfl
  | 28, h, _ => cases h; exact mem_ws cd_28 rfl
  | 29, h, _ => cases h; exact mem_ws cd_29 rfl
  | 30, h, _ => cases h; exact mem_ws cd_30 rfl
  | 31, h, _ => cases h; exact mem_ws cd_31 rfl
  | 32, h, _ => cases h; exact mem_ws cd_32 rfl
  | 33, h, _ => cases h; exact mem_ws cd_33 rfl
  | 34, h, _ => cases h; exact mem_ws cd_34 rfl
  | 35, h, _ => cases h; exact mem_ws cd_35 rfl
  | 36, h, _ => cases h; exact mem_ws cd_36 rfl
  | 37, h, _ => cases h; exact mem_ws cd_37 rfl
  | 38, h, _ => cases h; exact mem_ws cd_38 rfl
  | 39, h, _ => cases h; exact mem_ws cd_39 rfl
  | 40, h, _ => cases h; exact mem_ws cd_40 rfl
  | 41, h, _ => cases h; exact mem_ws cd_41 rfl
  | 42, h, _ => cases h; exact mem_ws cd_42 rfl
  | 43, h, _ => cases h; exact mem_ws cd_43 rfl
  | 44, h, _ => cases h; exact mem_ws cd_44 rfl
  | 45, h, _ => cases h; exact mem_ws cd_45 rfl
  | 46, h, _ => cases h; exact mem_ws cd_46 rfl
  | 47, h, _ => cases h; exact mem_ws cd_47 rfl
  | 48, h, _ => cases h; exact mem_ws cd_48 rfl
  | 49, h, _ => cases h; exact mem_ws cd_49 rfl
  | 50, h, _ => cases h; exact mem_ws cd_50 rfl
  | 51, h, _ => cases h; exact mem_ws cd_51 rfl
  | 52, h, _ => cases h; exact mem_ws cd_52 rfl
  | 53, h, _ => cases h; exact mem_ws cd_53 rfl
  | 54, h, _ => cases h; exact mem_ws cd_54 rfl
  | 55, h, _ => cases h; exact mem_ws cd_55 rfl
  | 56, h, _ => cases h; exact mem_ws cd_56 rfl
  | 57, h, _ => cases h; exact mem_ws cd_57 rfl
  | 58, h, _ => cases h; exact mem_ws cd_58 rfl
  | 59, h, _ => cases h; exact mem_ws cd_59 rfl
  | 60, h, _ => cases h; exact mem_ws cd_60 rfl
  | 61, h, _ => cases h; exact mem_ws cd_61 rfl
  | 62, h, _ => cases h; exact mem_ws cd_62 rfl
  | 63, h, _ => cases h; exact mem_ws cd_63 rfl
  | 64, h, _ => cases h; exact mem_ws cd_64 rfl
  | 65, h, _ => cases h; exact mem_ws cd_65 rfl
  | 66, h, _ => cases h; exact mem_ws cd_66 rfl
  | 67, h, _ => cases h; exact mem_ws cd_67 rfl
  | 68, h, _ => cases h; exact mem_ws cd_68 rfl
  | 69, h, _ => cases h; exact mem_ws cd_69 rfl
  | 70, h, _ => cases h; exact mem_ws cd_70 rfl
  | 71, h, _ => cases h; exact mem_ws cd_71 rfl
  | 72, h, _ => cases h; exact mem_ws cd_72 rfl
  | 73, h, _ => cases h; exact mem_ws cd_73 rfl
  | 74, h, _ => cases h; exact mem_ws cd_74 rfl
  | 75, h, _ => cases h; exact mem_ws cd_75 rfl
  | 76, h, _ => cases h; exact mem_ws cd_76 rfl
  | 77, h, _ => cases h; exact mem_ws cd_77 rfl
  | 78, h, _ => cases h; exact mem_ws cd_78 rfl
  | 79, h, _ => cases h; exact mem_ws cd_79 rfl
  | 80, h, _ => cases h; exact mem_ws cd_80 rfl
  | 81, h, _ => cases h; exact mem_ws cd_81 rfl
  | 82, h, _ => cases h; exact mem_ws cd_82 rfl
  | 83, h, _ => cases h; exact mem_ws cd_83 rfl
  | 84, h, _ => cases h; exact mem_ws cd_84 rfl
  | 85, h, _ => cases h; exact mem_ws cd_85 rfl
  | 86, h, _ => cases h; exact mem_ws cd_86 rfl
  | 87, h, _ => cases h; exact mem_ws cd_87 rfl
  | 88, h, _ => cases h; exact mem_ws cd_88 rfl
  | 89, h, _ => cases h; exact mem_ws cd_89 rfl
  | 90, h, _ => cases h; exact mem_ws cd_90 rfl
  | 91, h, _ => cases h; exact mem_ws cd_91 rfl
  | 92, h, _ => cases h; exact mem_ws cd_92 rfl
  | 93, h, _ => cases h; exact mem_ws cd_93 rfl
  | 94, h, _ => cases h; exact mem_ws cd_94 rfl
  | 95, h, _ => cases h; exact mem_ws cd_95 rfl
  | 96, h, _ => cases h; exact mem_ws cd_96 rfl
  | 97, h, _ => cases h; exact mem_ws cd_97 rfl
  | 98, h, _ => cases h; exact mem_ws cd_98 rfl
  | 99, h, _ => cases h; exact mem_ws cd_99 rfl
  | 100, h, _ => cases h; exact mem_ws cd_100 rfl
  | 101, h, _ => cases h; exact mem_ws cd_101 rfl
  | 102, h, _ => cases h; exact mem_ws cd_102 rfl
  | 103, h, _ => cases h; exact mem_ws cd_103 rfl
  | 104, h, _ => cases h; exact mem_ws cd_104 rfl
  | 105, h, _ => cases h; exact mem_ws cd_105 rfl
  | 106, h, _ => cases h; exact mem_ws cd_106 rfl
  | 107, h, _ => cases h; exact mem_ws cd_107 rfl
  | 108, h, _ => cases h; exact mem_ws cd_108 rfl
  | 109, h, _ => cases h; exact mem_ws cd_109 rfl
  | 110, h, _ => cases h; exact mem_ws cd_110 rfl
  | 111, h, _ => cases h; exact mem_ws cd_111 rfl
  | 112, h, _ => cases h; exact mem_ws cd_112 rfl
  | 113, h, _ => cases h; exact mem_ws cd_113 rfl
  | 114, h, _ => cases h; exact mem_ws cd_114 rfl
  | 115, h, _ => cases h; exact mem_ws cd_115 rfl
  | 116, h, _ => cases h; exact mem_ws cd_116 rfl
  | 117, h, _ => cases h; exact mem_ws cd_117 rfl
  | 118, h, _ => cases h; exact mem_ws cd_118 rfl
  | 119, h, _ => cases h; exact mem_ws cd_119 rfl
  | 120, h, _ => cases h; exact mem_ws cd_120 rfl
  | 121, h, _ => cases h; exact mem_ws cd_121 rfl
  | 122, h, _ => cases h; exact mem_ws cd_122 rfl
  | 123, h, _ => cases h; exact mem_ws cd_123 rfl
  | 124, h, _ => cases h; exact mem_ws cd_124 rfl
  | 125, h, _ => cases h; exact mem_ws cd_125 rfl
  | 126, h, _ => cases h; exact mem_ws cd_126 rfl
  | 127, h, _ => cases h; exact mem_ws cd_127 rfl
  | 128, h, _ => cases h; exact mem_ws cd_128 rfl
  | 129, h, _ => cases h; exact mem_ws cd_129 rfl
  | 130, h, _ => cases h; exact mem_ws cd_130 rfl
  | 131, h, _ => cases h; exact mem_ws cd_131 rfl
  | 132, h, _ => cases h; exact mem_ws cd_132 rfl
  | 133, h, _ => cases h; exact mem_ws cd_133 rfl
  | 134, h, _ => cases h; exact mem_ws cd_134 rfl
  | 135, h, _ => cases h; exact mem_ws cd_135 rfl
  | 136, h, _ => cases h; exact mem_ws cd_136 rfl
  | 137, h, _ => cases h; exact mem_ws cd_137 rfl
  | 138, h, _ => cases h; exact mem_ws cd_138 rfl
  | 139, h, _ => cases h; exact mem_ws cd_139 rfl
  | 140, h, _ => cases h; exact mem_ws cd_140 rfl
  | 141, h, _ => cases h; exact mem_ws cd_141 rfl
  | 142, h, _ => cases h; exact mem_ws cd_142 rfl
  | 143, h, _ => cases h; exact mem_ws cd_143 rfl
  | 144, h, _ => cases h; exact mem_ws cd_144 rfl
  | 145, h, _ => cases h; exact mem_ws cd_145 rfl
  | 146, h, hl => exact absurd rfl hl
  | n + 147, h, _ => exact absurd (List.getElem?_eq_some_iff.mp h).1 (by rw [ip_mlen]; omega)
theorem mt_ok {m : Nat} {q : ip_I} (h : ip_M[m]? = some q) : plainName q.2.1.cls = true ∧ q.2.1.cls = ip_own q.1 ∧ q.2.1.cls ≠ "java/lang/invoke/MethodHandle" ∧ q.2.1.cls ≠ "java/lang/invoke/VarHandle" ∧ q.2.2.2.1 ≤ 40 ∧ Cond.initialized q.2.1.cls ∈ ip_ws ∧ (m = mlaw ∨ Cond.static q.2.1 ∈ ip_ws ∨ (Cond.instanceMethod q.2.1 ∈ ip_ws ∧ ((q.2.1.name = "<init>" ∧ q.2.2.2.2 = none) ∨ Cond.selects q.2.1.cls q.2.1 q.2.1 ∈ ip_ws))) := by
  have hm : m < 147 := by have := (List.getElem?_eq_some_iff.mp h).1; rw [ip_mlen] at this; exact this
  have ha := List.all_eq_true.mp ip_mA m (List.mem_range.mpr hm)
  unfold ip_mC at ha
  split at ha
  · rename_i q' a b c h1 h2 h3 h4
    cases h.symm.trans h1
    simp only [Bool.and_eq_true, Bool.or_eq_true, decide_eq_true_eq, beq_iff_eq] at ha
    obtain ⟨⟨⟨⟨⟨⟨g1, g2⟩, g3⟩, g4⟩, g5⟩, g6⟩, g7⟩ := ha
    refine ⟨g1, g2, g3, g4, g5, mem_wl g6 rfl, ?_⟩
    rcases g7 with (g7 | g7) | ⟨g7, g8⟩
    · exact Or.inl g7
    · exact Or.inr (Or.inl (mem_wl g7 rfl))
    · refine Or.inr (Or.inr ⟨mem_wl g7 rfl, ?_⟩)
      rcases g8 with ⟨g8, g9⟩ | g8
      · exact Or.inl ⟨g8, g9⟩
      · exact Or.inr (mem_wl g8 rfl)
  · cases ha
/-- a call's link: the method, its kind as its words have it -/
def ip_lmC (x : Nat × Nat × Nat × Nat × Nat × Nat) : Bool := match ip_M[x.2.2.2.1]? with
  | none => false
  | some q => decide (x.2.2.2.1 ≠ mlaw) && decide ((parseMethodDescriptor q.2.1.desc).map (fun d => d.parameters.length) = some x.2.2.2.2.1) && (if x.2.2.1 < 3 then decide (tables_1[x.2.2.2.2.2]? = some (.methodLink (ip_own x.1) x.2.1 q.2.1)) else decide (x.2.2.1 < 6) && decide (tables_1[x.2.2.2.2.2]? = some (.methodLinkNest (ip_own x.1) x.2.1 q.2.1 RX8))) && (match ip_pi[x.2.2.2.1]?, ip_ps[x.2.2.2.1]? with
    | some a, some b => if x.2.2.1 = 1 ∨ x.2.2.1 = 4 then decide (lw_tbl[a]? = some (.static q.2.1)) else decide (lw_tbl[a]? = some (.instanceMethod q.2.1)) && (if x.2.2.1 = 2 ∨ x.2.2.1 = 5 then decide (q.2.1.name = "<init>") && decide (q.2.2.2.2 = none) else decide (lw_tbl[b]? = some (.selects q.2.1.cls q.2.1 q.2.1)))
    | _, _ => false)
theorem ip_lmA : ip_lmL.all ip_lmC = true := by decide +kernel
theorem lm_ok {cn idx kd m n : Nat} (h : ip_lm cn idx = some (kd, m, n)) : ∃ q, ip_M[m]? = some q ∧ m ≠ mlaw ∧ (parseMethodDescriptor q.2.1.desc).map (fun d => d.parameters.length) = some n ∧ ((kd < 3 ∧ Cond.methodLink (ip_own cn) idx q.2.1 ∈ ip_ws) ∨ (2 < kd ∧ kd < 6 ∧ Cond.methodLinkNest (ip_own cn) idx q.2.1 RX8 ∈ tables_1)) ∧ (((kd = 1 ∨ kd = 4) ∧ Cond.static q.2.1 ∈ ip_ws) ∨ (¬ (kd = 1 ∨ kd = 4) ∧ Cond.instanceMethod q.2.1 ∈ ip_ws ∧ (((kd = 2 ∨ kd = 5) ∧ q.2.1.name = "<init>" ∧ q.2.2.2.2 = none) ∨ (¬ (kd = 2 ∨ kd = 5) ∧ Cond.selects q.2.1.cls q.2.1 q.2.1 ∈ ip_ws)))) := by
  unfold ip_lm at h
  obtain ⟨x, h1, h2⟩ := Option.map_eq_some_iff.mp h
  have hm := List.mem_of_find?_eq_some h1
  have hc := List.find?_some h1
  simp only [Bool.and_eq_true, beq_iff_eq] at hc
  obtain ⟨rfl, rfl⟩ := hc
  obtain ⟨rfl, h5⟩ := Prod.mk.inj h2
  obtain ⟨rfl, rfl⟩ := Prod.mk.inj h5
  have ha := List.all_eq_true.mp ip_lmA x hm
  unfold ip_lmC at ha
  split at ha
  · cases ha
  · rename_i q hq
    simp only [Bool.and_eq_true, decide_eq_true_eq] at ha
    obtain ⟨⟨⟨g1, g2⟩, g3⟩, g4⟩ := ha
    refine ⟨q, hq, g1, g2, ?_, ?_⟩
    · split at g3
      · rename_i z
        exact Or.inl ⟨z, mem_ws (of_decide_eq_true g3) rfl⟩
      · rename_i z
        simp only [Bool.and_eq_true, decide_eq_true_eq] at g3
        exact Or.inr ⟨by omega, g3.1, List.mem_of_getElem? g3.2⟩
    · split at g4
      · split at g4
        · rename_i z
          exact Or.inl ⟨z, mem_wl (of_decide_eq_true g4) rfl⟩
        · rename_i z
          simp only [Bool.and_eq_true, decide_eq_true_eq] at g4
          refine Or.inr ⟨z, mem_wl g4.1 rfl, ?_⟩
          have g5 := g4.2
          split at g5
          · rename_i y
            simp only [Bool.and_eq_true, decide_eq_true_eq] at g5
            exact Or.inl ⟨y, g5.1, g5.2⟩
          · rename_i y
            exact Or.inr ⟨y, mem_wl (of_decide_eq_true g5) rfl⟩
      · cases g4
